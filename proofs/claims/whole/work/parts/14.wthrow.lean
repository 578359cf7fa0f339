def rm_Or_part : Room := { frames := 1, cells := 0, slots := 0, locals := 24 }
set_option maxHeartbeats 4000000 in
set_option maxRecDepth 100000 in
theorem c_Or_part (l : Launch) (D : va_G) (cT : Nat → ClassId) (qO : Nat) (qOa : Nat) (qT : Nat) (qTs : Nat) (qR : Nat) (qRs : Nat) (qP : Nat) (qPc : Nat) (qPl : Nat) (qPv : Nat) (qL : Nat) (qLj : Nat) (qF : Nat) (qFk : Nat) (qFf : Nat) (qFl : Nat) (done : Int32) (brd : Int32) (tup : Int32) (tdn : Int32) (askd : Int32) (answ : Nat → Int32) (tlen : Int32) (tpl : Int32) (tsg : Nat → Int32) (rlen : Int32) (rsz : Int32) (rsg : Nat → Int32) (psz : Int32) (pcd : Nat → Int32) (pld : Nat → Int32) (pct : Nat → Int64) (lpr : Int32) (lful : Bool) (ljn : Nat → Int32) (fsz : Int32) (fkd : Nat → Int32) (ffr : Nat → Int32) (fto : Nat → Int32) (p1 : Int32) (p2 : Int32) (p3 : Int64) {rr : Int32} {o_psz : Int32} {o_pcd : Nat → Int32} {o_pld : Nat → Int32} {o_pct : Nat → Int64} (hM : m_Or_part p1 p2 p3 psz pcd pld pct = some (.inr (rr, o_psz, o_pcd, o_pld, o_pct))) : Ct l y_Or_part (WS y_Or_part b_Or_part 5 (some .int)) rm_Or_part D cT [.ref qO, .int p1, .int p2, .long p3] [(qO, .inr (0, [.ref qT, .ref qR, .ref qP, .ref qL, .ref qF, .int done, .int brd, .int tup, .int tdn, .ref qOa, .int askd])), (qOa, .inl (cT 0, 149, .inl answ)), (qT, .inr (1, [.ref qTs, .int tlen, .int tpl])), (qTs, .inl (cT 2, 300, .inl tsg)), (qR, .inr (2, [.ref qRs, .int rlen, .int rsz])), (qRs, .inl (cT 2, 300, .inl rsg)), (qP, .inr (3, [.ref qPc, .ref qPl, .ref qPv, .int psz])), (qPc, .inl (cT 0, 12, .inl pcd)), (qPl, .inl (cT 0, 12, .inl pld)), (qPv, .inl (cT 1, 12, .inr (.inl pct))), (qL, .inr (4, [.ref qLj, .int lpr, .int (bI lful)])), (qLj, .inl (cT 0, 10, .inl ljn)), (qF, .inr (5, [.ref qFk, .ref qFf, .ref qFl, .int fsz])), (qFk, .inl (cT 0, 20, .inl fkd)), (qFf, .inl (cT 0, 20, .inl ffr)), (qFl, .inl (cT 0, 20, .inl fto))] (some (.int rr)) [(qO, .inr (0, [.ref qT, .ref qR, .ref qP, .ref qL, .ref qF, .int done, .int brd, .int tup, .int tdn, .ref qOa, .int askd])), (qOa, .inl (cT 0, 149, .inl answ)), (qT, .inr (1, [.ref qTs, .int tlen, .int tpl])), (qTs, .inl (cT 2, 300, .inl tsg)), (qR, .inr (2, [.ref qRs, .int rlen, .int rsz])), (qRs, .inl (cT 2, 300, .inl rsg)), (qP, .inr (3, [.ref qPc, .ref qPl, .ref qPv, .int o_psz])), (qPc, .inl (cT 0, 12, .inl o_pcd)), (qPl, .inl (cT 0, 12, .inl o_pld)), (qPv, .inl (cT 1, 12, .inr (.inl o_pct))), (qL, .inr (4, [.ref qLj, .int lpr, .int (bI lful)])), (qLj, .inl (cT 0, 10, .inl ljn)), (qF, .inr (5, [.ref qFk, .ref qFf, .ref qFl, .int fsz])), (qFk, .inl (cT 0, 20, .inl fkd)), (qFf, .inl (cT 0, 20, .inl ffr)), (qFl, .inl (cT 0, 20, .inl fto))] 0 0 := by
  intro sz
  refine Met.ofW (cc := b_Or_part) (maxL := 5) (ret := (some .int)) (by decide) rfl ?_
  intro p e s m args below meth c s₁ B hml hv
  obtain ⟨rfl, hsz, hP, hE, hD0⟩ := hv
  have hx := B.exec
  have hb := B.bytes
  have hr := B.returns
  have hts : ∀ w ∈ TB, w.before _ s = true := fun w h => atoms_spec (ws := WS y_Or_part b_Or_part 5 (some .int)) B.pre w (List.mem_cons_of_mem _ h)
  have hown : s.vm.findClass R_Or = some m.cls := findClass_of_methodNamed B.named
  have hlocks := B.notSynchronized
  have hK := hE.1
  have hN := hE.2
  subst hsz
  have hD := hD0.self (sz := s.heap.size)
  generalize hAe : va_A [(qO, .inr (0, [.ref qT, .ref qR, .ref qP, .ref qL, .ref qF, .int done, .int brd, .int tup, .int tdn, .ref qOa, .int askd])), (qOa, .inl (cT 0, 149, .inl answ)), (qT, .inr (1, [.ref qTs, .int tlen, .int tpl])), (qTs, .inl (cT 2, 300, .inl tsg)), (qR, .inr (2, [.ref qRs, .int rlen, .int rsz])), (qRs, .inl (cT 2, 300, .inl rsg)), (qP, .inr (3, [.ref qPc, .ref qPl, .ref qPv, .int psz])), (qPc, .inl (cT 0, 12, .inl pcd)), (qPl, .inl (cT 0, 12, .inl pld)), (qPv, .inl (cT 1, 12, .inr (.inl pct))), (qL, .inr (4, [.ref qLj, .int lpr, .int (bI lful)])), (qLj, .inl (cT 0, 10, .inl ljn)), (qF, .inr (5, [.ref qFk, .ref qFf, .ref qFl, .int fsz])), (qFk, .inl (cT 0, 20, .inl fkd)), (qFf, .inl (cT 0, 20, .inl ffr)), (qFl, .inl (cT 0, 20, .inl fto))] s.heap.size = A at hD ⊢
  have hA : ∀ q : Nat, s.heap.size ≤ q → A q := fun q h => by rw [← hAe]; exact Or.inr h
  have hS : va_S A s.heap s.heap [] := va_S.rf
  have hl := lv_entry ([.ref qO, .int p1, .int p2, .long p3]) (n := 5) (Nat.le_of_ble_eq_true rfl)
  rw [lg_entry_eq]
  generalize (lg_sl ([.ref qO, .int p1, .int p2, .long p3]) ++ List.replicate (5 - (lg_sl ([.ref qO, .int p1, .int p2, .long p3])).length) Slot.unset).toArray = ls at hl ⊢
  have hl : lv_has ls 5 [(0, .ref qO), (1, .int p1), (2, .int p2), (3, .long p3)] := hl
  have S : CallFix p m c b_Or_part 5 s _ TB R_Or := ⟨hx, hb, hml, hown, hts⟩
  unfold m_Or_part at hM
  refine lv_iload_n hx hb d_Or_part_0 rfl (lv_at hl 1 rfl) ?_
  obtain ⟨r_1, hc_1, hM⟩ := bd1T hM
  refine ca_S (As := [.int p1]) (rest := []) (wr := [(qO, .inr (0, [.ref qT, .ref qR, .ref qP, .ref qL, .ref qF, .int done, .int brd, .int tup, .int tdn, .ref qOa, .int askd])), (qOa, .inl (cT 0, 149, .inl answ)), (qT, .inr (1, [.ref qTs, .int tlen, .int tpl])), (qTs, .inl (cT 2, 300, .inl tsg)), (qR, .inr (2, [.ref qRs, .int rlen, .int rsz])), (qRs, .inl (cT 2, 300, .inl rsg)), (qP, .inr (3, [.ref qPc, .ref qPl, .ref qPv, .int psz])), (qPc, .inl (cT 0, 12, .inl pcd)), (qPl, .inl (cT 0, 12, .inl pld)), (qPv, .inl (cT 1, 12, .inr (.inl pct))), (qL, .inr (4, [.ref qLj, .int lpr, .int (bI lful)])), (qLj, .inl (cT 0, 10, .inl ljn)), (qF, .inr (5, [.ref qFk, .ref qFf, .ref qFl, .int fsz])), (qFk, .inl (cT 0, 20, .inl fkd)), (qFf, .inl (cT 0, 20, .inl ffr)), (qFl, .inl (cT 0, 20, .inl fto))]) (w2 := [(qO, .inr (0, [.ref qT, .ref qR, .ref qP, .ref qL, .ref qF, .int done, .int brd, .int tup, .int tdn, .ref qOa, .int askd])), (qOa, .inl (cT 0, 149, .inl answ)), (qT, .inr (1, [.ref qTs, .int tlen, .int tpl])), (qTs, .inl (cT 2, 300, .inl tsg)), (qR, .inr (2, [.ref qRs, .int rlen, .int rsz])), (qRs, .inl (cT 2, 300, .inl rsg)), (qP, .inr (3, [.ref qPc, .ref qPl, .ref qPv, .int psz])), (qPc, .inl (cT 0, 12, .inl pcd)), (qPl, .inl (cT 0, 12, .inl pld)), (qPv, .inl (cT 1, 12, .inr (.inl pct))), (qL, .inr (4, [.ref qLj, .int lpr, .int (bI lful)])), (qLj, .inl (cT 0, 10, .inl ljn)), (qF, .inr (5, [.ref qFk, .ref qFf, .ref qFl, .int fsz])), (qFk, .inl (cT 0, 20, .inl fkd)), (qFf, .inl (cT 0, 20, .inl ffr)), (qFl, .inl (cT 0, 20, .inl fto))]) S hE (c_Or_isCode l D cT p1 hc_1) gw_078e8e0a rfl rfl ⟨Nat.le_of_ble_eq_true rfl, Nat.le_of_ble_eq_true rfl⟩ rfl hl.1 rfl (Nat.le_of_ble_eq_true rfl) d_Or_part_1 ⟨Nat.zero_le _, Nat.zero_le _⟩ hP hD hS hA [] [0, 1, 2, 3, 4, 5, 6, 7, 8, 9, 10, 11, 12, 13, 14, 15] [0, 1, 2, 3, 4, 5, 6, 7, 8, 9, 10, 11, 12, 13, 14, 15] rfl rfl (by decide) (by decide) rfl (by decide) (by decide) (fun H locs hP hD hS => ?_)
  refine lv_if_eq (tgt := 21) hx hb d_Or_part_4 (by decide) (fun c_4 => ?_) (fun c_4 => ?_)
  · have hM := itT hM c_4
    exact absurd hM (by simp)
  · have hM := itF hM c_4
    refine lv_iload_n hx hb d_Or_part_7 rfl (lv_at hl 2 rfl) ?_
    obtain ⟨r_8, hc_8, hM⟩ := bd1T hM
    refine ca_S (As := [.int p2]) (rest := []) (wr := [(qO, .inr (0, [.ref qT, .ref qR, .ref qP, .ref qL, .ref qF, .int done, .int brd, .int tup, .int tdn, .ref qOa, .int askd])), (qOa, .inl (cT 0, 149, .inl answ)), (qT, .inr (1, [.ref qTs, .int tlen, .int tpl])), (qTs, .inl (cT 2, 300, .inl tsg)), (qR, .inr (2, [.ref qRs, .int rlen, .int rsz])), (qRs, .inl (cT 2, 300, .inl rsg)), (qP, .inr (3, [.ref qPc, .ref qPl, .ref qPv, .int psz])), (qPc, .inl (cT 0, 12, .inl pcd)), (qPl, .inl (cT 0, 12, .inl pld)), (qPv, .inl (cT 1, 12, .inr (.inl pct))), (qL, .inr (4, [.ref qLj, .int lpr, .int (bI lful)])), (qLj, .inl (cT 0, 10, .inl ljn)), (qF, .inr (5, [.ref qFk, .ref qFf, .ref qFl, .int fsz])), (qFk, .inl (cT 0, 20, .inl fkd)), (qFf, .inl (cT 0, 20, .inl ffr)), (qFl, .inl (cT 0, 20, .inl fto))]) (w2 := [(qO, .inr (0, [.ref qT, .ref qR, .ref qP, .ref qL, .ref qF, .int done, .int brd, .int tup, .int tdn, .ref qOa, .int askd])), (qOa, .inl (cT 0, 149, .inl answ)), (qT, .inr (1, [.ref qTs, .int tlen, .int tpl])), (qTs, .inl (cT 2, 300, .inl tsg)), (qR, .inr (2, [.ref qRs, .int rlen, .int rsz])), (qRs, .inl (cT 2, 300, .inl rsg)), (qP, .inr (3, [.ref qPc, .ref qPl, .ref qPv, .int psz])), (qPc, .inl (cT 0, 12, .inl pcd)), (qPl, .inl (cT 0, 12, .inl pld)), (qPv, .inl (cT 1, 12, .inr (.inl pct))), (qL, .inr (4, [.ref qLj, .int lpr, .int (bI lful)])), (qLj, .inl (cT 0, 10, .inl ljn)), (qF, .inr (5, [.ref qFk, .ref qFf, .ref qFl, .int fsz])), (qFk, .inl (cT 0, 20, .inl fkd)), (qFf, .inl (cT 0, 20, .inl ffr)), (qFl, .inl (cT 0, 20, .inl fto))]) S hE (c_Or_isLand l D cT p2 hc_8) gw_1f2c9aaf rfl rfl ⟨Nat.le_of_ble_eq_true rfl, Nat.le_of_ble_eq_true rfl⟩ rfl hl.1 rfl (Nat.le_of_ble_eq_true rfl) d_Or_part_8 ⟨Nat.zero_le _, Nat.zero_le _⟩ hP hD hS hA [] [0, 1, 2, 3, 4, 5, 6, 7, 8, 9, 10, 11, 12, 13, 14, 15] [0, 1, 2, 3, 4, 5, 6, 7, 8, 9, 10, 11, 12, 13, 14, 15] rfl rfl (by decide) (by decide) rfl (by decide) (by decide) (fun H locs hP hD hS => ?_)
    refine lv_if_eq (tgt := 21) hx hb d_Or_part_11 (by decide) (fun c_11 => ?_) (fun c_11 => ?_)
    · have hM := itT hM c_11
      exact absurd hM (by simp)
    · have hM := itF hM c_11
      refine lv_lload_n hx hb d_Or_part_14 rfl (lv_at hl 3 rfl) ?_
      obtain ⟨r_15, hc_15, hM⟩ := bd1T hM
      refine ca_S (As := [.long p3]) (rest := []) (wr := [(qO, .inr (0, [.ref qT, .ref qR, .ref qP, .ref qL, .ref qF, .int done, .int brd, .int tup, .int tdn, .ref qOa, .int askd])), (qOa, .inl (cT 0, 149, .inl answ)), (qT, .inr (1, [.ref qTs, .int tlen, .int tpl])), (qTs, .inl (cT 2, 300, .inl tsg)), (qR, .inr (2, [.ref qRs, .int rlen, .int rsz])), (qRs, .inl (cT 2, 300, .inl rsg)), (qP, .inr (3, [.ref qPc, .ref qPl, .ref qPv, .int psz])), (qPc, .inl (cT 0, 12, .inl pcd)), (qPl, .inl (cT 0, 12, .inl pld)), (qPv, .inl (cT 1, 12, .inr (.inl pct))), (qL, .inr (4, [.ref qLj, .int lpr, .int (bI lful)])), (qLj, .inl (cT 0, 10, .inl ljn)), (qF, .inr (5, [.ref qFk, .ref qFf, .ref qFl, .int fsz])), (qFk, .inl (cT 0, 20, .inl fkd)), (qFf, .inl (cT 0, 20, .inl ffr)), (qFl, .inl (cT 0, 20, .inl fto))]) (w2 := [(qO, .inr (0, [.ref qT, .ref qR, .ref qP, .ref qL, .ref qF, .int done, .int brd, .int tup, .int tdn, .ref qOa, .int askd])), (qOa, .inl (cT 0, 149, .inl answ)), (qT, .inr (1, [.ref qTs, .int tlen, .int tpl])), (qTs, .inl (cT 2, 300, .inl tsg)), (qR, .inr (2, [.ref qRs, .int rlen, .int rsz])), (qRs, .inl (cT 2, 300, .inl rsg)), (qP, .inr (3, [.ref qPc, .ref qPl, .ref qPv, .int psz])), (qPc, .inl (cT 0, 12, .inl pcd)), (qPl, .inl (cT 0, 12, .inl pld)), (qPv, .inl (cT 1, 12, .inr (.inl pct))), (qL, .inr (4, [.ref qLj, .int lpr, .int (bI lful)])), (qLj, .inl (cT 0, 10, .inl ljn)), (qF, .inr (5, [.ref qFk, .ref qFf, .ref qFl, .int fsz])), (qFk, .inl (cT 0, 20, .inl fkd)), (qFf, .inl (cT 0, 20, .inl ffr)), (qFl, .inl (cT 0, 20, .inl fto))]) S hE (c_Or_isCents l D cT p3 hc_15) gw_25f3dde8 rfl rfl ⟨Nat.le_of_ble_eq_true rfl, Nat.le_of_ble_eq_true rfl⟩ rfl hl.1 rfl (Nat.le_of_ble_eq_true rfl) d_Or_part_15 ⟨Nat.zero_le _, Nat.zero_le _⟩ hP hD hS hA [] [0, 1, 2, 3, 4, 5, 6, 7, 8, 9, 10, 11, 12, 13, 14, 15] [0, 1, 2, 3, 4, 5, 6, 7, 8, 9, 10, 11, 12, 13, 14, 15] rfl rfl (by decide) (by decide) rfl (by decide) (by decide) (fun H locs hP hD hS => ?_)
      refine lv_if_ne (tgt := 31) hx hb d_Or_part_18 (by decide) (fun c_18 => ?_) (fun c_18 => ?_)
      · have hM := itF hM c_18
        refine lv_aload_n hx hb d_Or_part_31 rfl (lv_at hl 0 rfl) ?_
        refine va_get (D := D) (ci := 0) (v := .ref qP) (C := R_Or) (T := F_Or) (N := 11) hx hb hts i_Or hown hK hP 0 rfl rfl 2 (by decide) (hts _ iw_4820ce3a) (fun _ h9 => h9) rfl d_Or_part_32 ?_
        refine va_getN (D := D) (ci := 3) (v := .int psz) (C := R_Parts) (T := F_Parts) (N := 4) hx hb hts i_Parts hown hK hP 6 rfl rfl 3 (by decide) (va_Nw.use rfl (hN _ nl_7ebd0f4f)) (fun _ h9 => h9) rfl d_Or_part_35 ?_
        refine lv_bipush (v := 12) hx hb d_Or_part_38 (by decide) ?_
        refine lv_icmp_lt (tgt := 53) hx hb d_Or_part_40 (by decide) (fun c_40 => ?_) (fun c_40 => ?_)
        · have hM := itT hM c_40
          refine lv_aload_n hx hb d_Or_part_53 rfl (lv_at hl 0 rfl) ?_
          refine va_get (D := D) (ci := 0) (v := .ref qP) (C := R_Or) (T := F_Or) (N := 11) hx hb hts i_Or hown hK hP 0 rfl rfl 2 (by decide) (hts _ iw_4820ce3a) (fun _ h9 => h9) rfl d_Or_part_54 ?_
          refine lv_iload_n hx hb d_Or_part_57 rfl (lv_at hl 1 rfl) ?_
          refine lv_iload_n hx hb d_Or_part_58 rfl (lv_at hl 2 rfl) ?_
          refine lv_lload_n hx hb d_Or_part_59 rfl (lv_at hl 3 rfl) ?_
          obtain ⟨r_60, psz_60, pcd_60, pld_60, pct_60, hc_60, hM⟩ := bd5T hM
          refine ca_V (As := [.int p1, .int p2, .long p3]) (rest := []) (wr := [(qO, .inr (0, [.ref qT, .ref qR, .ref qP, .ref qL, .ref qF, .int done, .int brd, .int tup, .int tdn, .ref qOa, .int askd])), (qOa, .inl (cT 0, 149, .inl answ)), (qT, .inr (1, [.ref qTs, .int tlen, .int tpl])), (qTs, .inl (cT 2, 300, .inl tsg)), (qR, .inr (2, [.ref qRs, .int rlen, .int rsz])), (qRs, .inl (cT 2, 300, .inl rsg)), (qL, .inr (4, [.ref qLj, .int lpr, .int (bI lful)])), (qLj, .inl (cT 0, 10, .inl ljn)), (qF, .inr (5, [.ref qFk, .ref qFf, .ref qFl, .int fsz])), (qFk, .inl (cT 0, 20, .inl fkd)), (qFf, .inl (cT 0, 20, .inl ffr)), (qFl, .inl (cT 0, 20, .inl fto))]) (w2 := [(qO, .inr (0, [.ref qT, .ref qR, .ref qP, .ref qL, .ref qF, .int done, .int brd, .int tup, .int tdn, .ref qOa, .int askd])), (qOa, .inl (cT 0, 149, .inl answ)), (qT, .inr (1, [.ref qTs, .int tlen, .int tpl])), (qTs, .inl (cT 2, 300, .inl tsg)), (qR, .inr (2, [.ref qRs, .int rlen, .int rsz])), (qRs, .inl (cT 2, 300, .inl rsg)), (qP, .inr (3, [.ref qPc, .ref qPl, .ref qPv, .int psz_60])), (qPc, .inl (cT 0, 12, .inl pcd_60)), (qPl, .inl (cT 0, 12, .inl pld_60)), (qPv, .inl (cT 1, 12, .inr (.inl pct_60))), (qL, .inr (4, [.ref qLj, .int lpr, .int (bI lful)])), (qLj, .inl (cT 0, 10, .inl ljn)), (qF, .inr (5, [.ref qFk, .ref qFf, .ref qFl, .int fsz])), (qFk, .inl (cT 0, 20, .inl fkd)), (qFf, .inl (cT 0, 20, .inl ffr)), (qFl, .inl (cT 0, 20, .inl fto))]) S hE (c_Parts_add l D cT qP qPc qPl qPv psz pcd pld pct p1 p2 p3 hc_60) gw_b4d7b3f4 rfl rfl ⟨Nat.le_of_ble_eq_true rfl, Nat.le_of_ble_eq_true rfl⟩ (ci := 3) rfl rfl (k0 := 0) rfl rfl hl.1 rfl (Nat.le_of_ble_eq_true rfl) d_Or_part_60 ⟨Nat.zero_le _, Nat.zero_le _⟩ hP hD hS hA [6, 7, 8, 9] [0, 1, 2, 3, 4, 5, 10, 11, 12, 13, 14, 15] [0, 1, 2, 3, 4, 5, 12, 13, 14, 15, 6, 7, 8, 9, 10, 11] rfl rfl (by decide) (by decide) rfl (by decide) (by decide) (fun H locs hP hD hS => ?_)
          have hM := inrT hM
          obtain ⟨eo0, eo1, eo2, eo3, eo4⟩ := so5T hM
          subst eo0
          subst eo1
          subst eo2
          subst eo3
          subst eo4
          exact rt_i S hr hlocks hP hD hS d_Or_part_63
        · have hM := itF hM c_40
          exact absurd hM (by simp)
      · have hM := itT hM c_18
        exact absurd hM (by simp)
def rm_Or_join : Room := { frames := 2, cells := 0, slots := 0, locals := 43 }
set_option maxHeartbeats 4000000 in
set_option maxRecDepth 100000 in
theorem c_Or_join (l : Launch) (D : va_G) (cT : Nat → ClassId) (qO : Nat) (qOa : Nat) (qT : Nat) (qTs : Nat) (qR : Nat) (qRs : Nat) (qP : Nat) (qPc : Nat) (qPl : Nat) (qPv : Nat) (qL : Nat) (qLj : Nat) (qF : Nat) (qFk : Nat) (qFf : Nat) (qFl : Nat) (done : Int32) (brd : Int32) (tup : Int32) (tdn : Int32) (askd : Int32) (answ : Nat → Int32) (tlen : Int32) (tpl : Int32) (tsg : Nat → Int32) (rlen : Int32) (rsz : Int32) (rsg : Nat → Int32) (psz : Int32) (pcd : Nat → Int32) (pld : Nat → Int32) (pct : Nat → Int64) (lpr : Int32) (lful : Bool) (ljn : Nat → Int32) (fsz : Int32) (fkd : Nat → Int32) (ffr : Nat → Int32) (fto : Nat → Int32) (p1 : Int32) (p2 : Int32) {rr : Int32} {o_lpr : Int32} {o_ljn : Nat → Int32} (hM : m_Or_join p1 p2 lpr ljn = some (.inr (rr, o_lpr, o_ljn))) : Ct l y_Or_join (WS y_Or_join b_Or_join 3 (some .int)) rm_Or_join D cT [.ref qO, .int p1, .int p2] [(qO, .inr (0, [.ref qT, .ref qR, .ref qP, .ref qL, .ref qF, .int done, .int brd, .int tup, .int tdn, .ref qOa, .int askd])), (qOa, .inl (cT 0, 149, .inl answ)), (qT, .inr (1, [.ref qTs, .int tlen, .int tpl])), (qTs, .inl (cT 2, 300, .inl tsg)), (qR, .inr (2, [.ref qRs, .int rlen, .int rsz])), (qRs, .inl (cT 2, 300, .inl rsg)), (qP, .inr (3, [.ref qPc, .ref qPl, .ref qPv, .int psz])), (qPc, .inl (cT 0, 12, .inl pcd)), (qPl, .inl (cT 0, 12, .inl pld)), (qPv, .inl (cT 1, 12, .inr (.inl pct))), (qL, .inr (4, [.ref qLj, .int lpr, .int (bI lful)])), (qLj, .inl (cT 0, 10, .inl ljn)), (qF, .inr (5, [.ref qFk, .ref qFf, .ref qFl, .int fsz])), (qFk, .inl (cT 0, 20, .inl fkd)), (qFf, .inl (cT 0, 20, .inl ffr)), (qFl, .inl (cT 0, 20, .inl fto))] (some (.int rr)) [(qO, .inr (0, [.ref qT, .ref qR, .ref qP, .ref qL, .ref qF, .int done, .int brd, .int tup, .int tdn, .ref qOa, .int askd])), (qOa, .inl (cT 0, 149, .inl answ)), (qT, .inr (1, [.ref qTs, .int tlen, .int tpl])), (qTs, .inl (cT 2, 300, .inl tsg)), (qR, .inr (2, [.ref qRs, .int rlen, .int rsz])), (qRs, .inl (cT 2, 300, .inl rsg)), (qP, .inr (3, [.ref qPc, .ref qPl, .ref qPv, .int psz])), (qPc, .inl (cT 0, 12, .inl pcd)), (qPl, .inl (cT 0, 12, .inl pld)), (qPv, .inl (cT 1, 12, .inr (.inl pct))), (qL, .inr (4, [.ref qLj, .int o_lpr, .int (bI lful)])), (qLj, .inl (cT 0, 10, .inl o_ljn)), (qF, .inr (5, [.ref qFk, .ref qFf, .ref qFl, .int fsz])), (qFk, .inl (cT 0, 20, .inl fkd)), (qFf, .inl (cT 0, 20, .inl ffr)), (qFl, .inl (cT 0, 20, .inl fto))] 0 0 := by
  intro sz
  refine Met.ofW (cc := b_Or_join) (maxL := 3) (ret := (some .int)) (by decide) rfl ?_
  intro p e s m args below meth c s₁ B hml hv
  obtain ⟨rfl, hsz, hP, hE, hD0⟩ := hv
  have hx := B.exec
  have hb := B.bytes
  have hr := B.returns
  have hts : ∀ w ∈ TB, w.before _ s = true := fun w h => atoms_spec (ws := WS y_Or_join b_Or_join 3 (some .int)) B.pre w (List.mem_cons_of_mem _ h)
  have hown : s.vm.findClass R_Or = some m.cls := findClass_of_methodNamed B.named
  have hlocks := B.notSynchronized
  have hK := hE.1
  have hN := hE.2
  subst hsz
  have hD := hD0.self (sz := s.heap.size)
  generalize hAe : va_A [(qO, .inr (0, [.ref qT, .ref qR, .ref qP, .ref qL, .ref qF, .int done, .int brd, .int tup, .int tdn, .ref qOa, .int askd])), (qOa, .inl (cT 0, 149, .inl answ)), (qT, .inr (1, [.ref qTs, .int tlen, .int tpl])), (qTs, .inl (cT 2, 300, .inl tsg)), (qR, .inr (2, [.ref qRs, .int rlen, .int rsz])), (qRs, .inl (cT 2, 300, .inl rsg)), (qP, .inr (3, [.ref qPc, .ref qPl, .ref qPv, .int psz])), (qPc, .inl (cT 0, 12, .inl pcd)), (qPl, .inl (cT 0, 12, .inl pld)), (qPv, .inl (cT 1, 12, .inr (.inl pct))), (qL, .inr (4, [.ref qLj, .int lpr, .int (bI lful)])), (qLj, .inl (cT 0, 10, .inl ljn)), (qF, .inr (5, [.ref qFk, .ref qFf, .ref qFl, .int fsz])), (qFk, .inl (cT 0, 20, .inl fkd)), (qFf, .inl (cT 0, 20, .inl ffr)), (qFl, .inl (cT 0, 20, .inl fto))] s.heap.size = A at hD ⊢
  have hA : ∀ q : Nat, s.heap.size ≤ q → A q := fun q h => by rw [← hAe]; exact Or.inr h
  have hS : va_S A s.heap s.heap [] := va_S.rf
  have hl := lv_entry ([.ref qO, .int p1, .int p2]) (n := 3) (Nat.le_of_ble_eq_true rfl)
  rw [lg_entry_eq]
  generalize (lg_sl ([.ref qO, .int p1, .int p2]) ++ List.replicate (3 - (lg_sl ([.ref qO, .int p1, .int p2])).length) Slot.unset).toArray = ls at hl ⊢
  have hl : lv_has ls 3 [(0, .ref qO), (1, .int p1), (2, .int p2)] := hl
  have S : CallFix p m c b_Or_join 3 s _ TB R_Or := ⟨hx, hb, hml, hown, hts⟩
  unfold m_Or_join at hM
  refine lv_iload_n hx hb d_Or_join_0 rfl (lv_at hl 1 rfl) ?_
  obtain ⟨r_1, hc_1, hM⟩ := bd1T hM
  refine ca_S (As := [.int p1]) (rest := []) (wr := [(qO, .inr (0, [.ref qT, .ref qR, .ref qP, .ref qL, .ref qF, .int done, .int brd, .int tup, .int tdn, .ref qOa, .int askd])), (qOa, .inl (cT 0, 149, .inl answ)), (qT, .inr (1, [.ref qTs, .int tlen, .int tpl])), (qTs, .inl (cT 2, 300, .inl tsg)), (qR, .inr (2, [.ref qRs, .int rlen, .int rsz])), (qRs, .inl (cT 2, 300, .inl rsg)), (qP, .inr (3, [.ref qPc, .ref qPl, .ref qPv, .int psz])), (qPc, .inl (cT 0, 12, .inl pcd)), (qPl, .inl (cT 0, 12, .inl pld)), (qPv, .inl (cT 1, 12, .inr (.inl pct))), (qL, .inr (4, [.ref qLj, .int lpr, .int (bI lful)])), (qLj, .inl (cT 0, 10, .inl ljn)), (qF, .inr (5, [.ref qFk, .ref qFf, .ref qFl, .int fsz])), (qFk, .inl (cT 0, 20, .inl fkd)), (qFf, .inl (cT 0, 20, .inl ffr)), (qFl, .inl (cT 0, 20, .inl fto))]) (w2 := [(qO, .inr (0, [.ref qT, .ref qR, .ref qP, .ref qL, .ref qF, .int done, .int brd, .int tup, .int tdn, .ref qOa, .int askd])), (qOa, .inl (cT 0, 149, .inl answ)), (qT, .inr (1, [.ref qTs, .int tlen, .int tpl])), (qTs, .inl (cT 2, 300, .inl tsg)), (qR, .inr (2, [.ref qRs, .int rlen, .int rsz])), (qRs, .inl (cT 2, 300, .inl rsg)), (qP, .inr (3, [.ref qPc, .ref qPl, .ref qPv, .int psz])), (qPc, .inl (cT 0, 12, .inl pcd)), (qPl, .inl (cT 0, 12, .inl pld)), (qPv, .inl (cT 1, 12, .inr (.inl pct))), (qL, .inr (4, [.ref qLj, .int lpr, .int (bI lful)])), (qLj, .inl (cT 0, 10, .inl ljn)), (qF, .inr (5, [.ref qFk, .ref qFf, .ref qFl, .int fsz])), (qFk, .inl (cT 0, 20, .inl fkd)), (qFf, .inl (cT 0, 20, .inl ffr)), (qFl, .inl (cT 0, 20, .inl fto))]) S hE (c_Or_isLand l D cT p1 hc_1) gw_1f2c9aaf rfl rfl ⟨Nat.le_of_ble_eq_true rfl, Nat.le_of_ble_eq_true rfl⟩ rfl hl.1 rfl (Nat.le_of_ble_eq_true rfl) d_Or_join_1 ⟨Nat.zero_le _, Nat.zero_le _⟩ hP hD hS hA [] [0, 1, 2, 3, 4, 5, 6, 7, 8, 9, 10, 11, 12, 13, 14, 15] [0, 1, 2, 3, 4, 5, 6, 7, 8, 9, 10, 11, 12, 13, 14, 15] rfl rfl (by decide) (by decide) rfl (by decide) (by decide) (fun H locs hP hD hS => ?_)
  refine lv_if_eq (tgt := 19) hx hb d_Or_join_4 (by decide) (fun c_4 => ?_) (fun c_4 => ?_)
  · have hM := itT hM c_4
    exact absurd hM (by simp)
  · have hM := itF hM c_4
    refine lv_iload_n hx hb d_Or_join_7 rfl (lv_at hl 2 rfl) ?_
    obtain ⟨r_8, hc_8, hM⟩ := bd1T hM
    refine ca_S (As := [.int p2]) (rest := []) (wr := [(qO, .inr (0, [.ref qT, .ref qR, .ref qP, .ref qL, .ref qF, .int done, .int brd, .int tup, .int tdn, .ref qOa, .int askd])), (qOa, .inl (cT 0, 149, .inl answ)), (qT, .inr (1, [.ref qTs, .int tlen, .int tpl])), (qTs, .inl (cT 2, 300, .inl tsg)), (qR, .inr (2, [.ref qRs, .int rlen, .int rsz])), (qRs, .inl (cT 2, 300, .inl rsg)), (qP, .inr (3, [.ref qPc, .ref qPl, .ref qPv, .int psz])), (qPc, .inl (cT 0, 12, .inl pcd)), (qPl, .inl (cT 0, 12, .inl pld)), (qPv, .inl (cT 1, 12, .inr (.inl pct))), (qL, .inr (4, [.ref qLj, .int lpr, .int (bI lful)])), (qLj, .inl (cT 0, 10, .inl ljn)), (qF, .inr (5, [.ref qFk, .ref qFf, .ref qFl, .int fsz])), (qFk, .inl (cT 0, 20, .inl fkd)), (qFf, .inl (cT 0, 20, .inl ffr)), (qFl, .inl (cT 0, 20, .inl fto))]) (w2 := [(qO, .inr (0, [.ref qT, .ref qR, .ref qP, .ref qL, .ref qF, .int done, .int brd, .int tup, .int tdn, .ref qOa, .int askd])), (qOa, .inl (cT 0, 149, .inl answ)), (qT, .inr (1, [.ref qTs, .int tlen, .int tpl])), (qTs, .inl (cT 2, 300, .inl tsg)), (qR, .inr (2, [.ref qRs, .int rlen, .int rsz])), (qRs, .inl (cT 2, 300, .inl rsg)), (qP, .inr (3, [.ref qPc, .ref qPl, .ref qPv, .int psz])), (qPc, .inl (cT 0, 12, .inl pcd)), (qPl, .inl (cT 0, 12, .inl pld)), (qPv, .inl (cT 1, 12, .inr (.inl pct))), (qL, .inr (4, [.ref qLj, .int lpr, .int (bI lful)])), (qLj, .inl (cT 0, 10, .inl ljn)), (qF, .inr (5, [.ref qFk, .ref qFf, .ref qFl, .int fsz])), (qFk, .inl (cT 0, 20, .inl fkd)), (qFf, .inl (cT 0, 20, .inl ffr)), (qFl, .inl (cT 0, 20, .inl fto))]) S hE (c_Or_isLand l D cT p2 hc_8) gw_1f2c9aaf rfl rfl ⟨Nat.le_of_ble_eq_true rfl, Nat.le_of_ble_eq_true rfl⟩ rfl hl.1 rfl (Nat.le_of_ble_eq_true rfl) d_Or_join_8 ⟨Nat.zero_le _, Nat.zero_le _⟩ hP hD hS hA [] [0, 1, 2, 3, 4, 5, 6, 7, 8, 9, 10, 11, 12, 13, 14, 15] [0, 1, 2, 3, 4, 5, 6, 7, 8, 9, 10, 11, 12, 13, 14, 15] rfl rfl (by decide) (by decide) rfl (by decide) (by decide) (fun H locs hP hD hS => ?_)
    refine lv_if_eq (tgt := 19) hx hb d_Or_join_11 (by decide) (fun c_11 => ?_) (fun c_11 => ?_)
    · have hM := itT hM c_11
      exact absurd hM (by simp)
    · have hM := itF hM c_11
      refine lv_iload_n hx hb d_Or_join_14 rfl (lv_at hl 1 rfl) ?_
      refine lv_iload_n hx hb d_Or_join_15 rfl (lv_at hl 2 rfl) ?_
      refine lv_icmp_ne (tgt := 29) hx hb d_Or_join_16 (by decide) (fun c_16 => ?_) (fun c_16 => ?_)
      · have hM := itF hM c_16
        refine lv_aload_n hx hb d_Or_join_29 rfl (lv_at hl 0 rfl) ?_
        refine va_get (D := D) (ci := 0) (v := .ref qL) (C := R_Or) (T := F_Or) (N := 11) hx hb hts i_Or hown hK hP 0 rfl rfl 3 (by decide) (hts _ iw_d5228362) (fun _ h9 => h9) rfl d_Or_join_30 ?_
        refine lv_iload_n hx hb d_Or_join_33 rfl (lv_at hl 1 rfl) ?_
        refine lv_iload_n hx hb d_Or_join_34 rfl (lv_at hl 2 rfl) ?_
        obtain ⟨r_35, lpr_35, ljn_35, hc_35, hM⟩ := bd3T hM
        refine ca_V (As := [.int p1, .int p2]) (rest := []) (wr := [(qO, .inr (0, [.ref qT, .ref qR, .ref qP, .ref qL, .ref qF, .int done, .int brd, .int tup, .int tdn, .ref qOa, .int askd])), (qOa, .inl (cT 0, 149, .inl answ)), (qT, .inr (1, [.ref qTs, .int tlen, .int tpl])), (qTs, .inl (cT 2, 300, .inl tsg)), (qR, .inr (2, [.ref qRs, .int rlen, .int rsz])), (qRs, .inl (cT 2, 300, .inl rsg)), (qP, .inr (3, [.ref qPc, .ref qPl, .ref qPv, .int psz])), (qPc, .inl (cT 0, 12, .inl pcd)), (qPl, .inl (cT 0, 12, .inl pld)), (qPv, .inl (cT 1, 12, .inr (.inl pct))), (qF, .inr (5, [.ref qFk, .ref qFf, .ref qFl, .int fsz])), (qFk, .inl (cT 0, 20, .inl fkd)), (qFf, .inl (cT 0, 20, .inl ffr)), (qFl, .inl (cT 0, 20, .inl fto))]) (w2 := [(qO, .inr (0, [.ref qT, .ref qR, .ref qP, .ref qL, .ref qF, .int done, .int brd, .int tup, .int tdn, .ref qOa, .int askd])), (qOa, .inl (cT 0, 149, .inl answ)), (qT, .inr (1, [.ref qTs, .int tlen, .int tpl])), (qTs, .inl (cT 2, 300, .inl tsg)), (qR, .inr (2, [.ref qRs, .int rlen, .int rsz])), (qRs, .inl (cT 2, 300, .inl rsg)), (qP, .inr (3, [.ref qPc, .ref qPl, .ref qPv, .int psz])), (qPc, .inl (cT 0, 12, .inl pcd)), (qPl, .inl (cT 0, 12, .inl pld)), (qPv, .inl (cT 1, 12, .inr (.inl pct))), (qL, .inr (4, [.ref qLj, .int lpr_35, .int (bI lful)])), (qLj, .inl (cT 0, 10, .inl ljn_35)), (qF, .inr (5, [.ref qFk, .ref qFf, .ref qFl, .int fsz])), (qFk, .inl (cT 0, 20, .inl fkd)), (qFf, .inl (cT 0, 20, .inl ffr)), (qFl, .inl (cT 0, 20, .inl fto))]) S hE (c_Lands_addPair l D cT qL qLj lpr lful ljn p1 p2 hc_35) gw_8a054705 rfl rfl ⟨Nat.le_of_ble_eq_true rfl, Nat.le_of_ble_eq_true rfl⟩ (ci := 4) rfl rfl (k0 := 0) rfl rfl hl.1 rfl (Nat.le_of_ble_eq_true rfl) d_Or_join_35 ⟨Nat.zero_le _, Nat.zero_le _⟩ hP hD hS hA [10, 11] [0, 1, 2, 3, 4, 5, 6, 7, 8, 9, 12, 13, 14, 15] [0, 1, 2, 3, 4, 5, 6, 7, 8, 9, 14, 15, 10, 11, 12, 13] rfl rfl (by decide) (by decide) rfl (by decide) (by decide) (fun H locs hP hD hS => ?_)
        refine lv_if_eq (tgt := 45) hx hb d_Or_join_38 (by decide) (fun c_38 => ?_) (fun c_38 => ?_)
        · have hM := itT hM c_38
          refine lv_iconst (v := 0) hx hb d_Or_join_45 (by decide) ?_
          have hM := inrT hM
          obtain ⟨eo0, eo1, eo2⟩ := so3T hM
          subst eo0
          subst eo1
          subst eo2
          exact rt_i S hr hlocks hP hD hS d_Or_join_46
        · have hM := itF hM c_38
          refine lv_iconst (v := 1) hx hb d_Or_join_41 (by decide) ?_
          refine lv_goto (tgt := 46) hx hb d_Or_join_42 (by decide) ?_
          have hM := inrT hM
          obtain ⟨eo0, eo1, eo2⟩ := so3T hM
          subst eo0
          subst eo1
          subst eo2
          exact rt_i S hr hlocks hP hD hS d_Or_join_46
      · have hM := itT hM c_16
        exact absurd hM (by simp)
def rm_Or_verdict : Room := { frames := 5, cells := 0, slots := 0, locals := 131 }
set_option maxHeartbeats 4000000 in
set_option maxRecDepth 100000 in
theorem c_Or_verdict (l : Launch) (D : va_G) (cT : Nat → ClassId) (qO : Nat) (qOa : Nat) (qT : Nat) (qTs : Nat) (qR : Nat) (qRs : Nat) (qP : Nat) (qPc : Nat) (qPl : Nat) (qPv : Nat) (qL : Nat) (qLj : Nat) (qF : Nat) (qFk : Nat) (qFf : Nat) (qFl : Nat) (done : Int32) (brd : Int32) (tup : Int32) (tdn : Int32) (askd : Int32) (answ : Nat → Int32) (tlen : Int32) (tpl : Int32) (tsg : Nat → Int32) (rlen : Int32) (rsz : Int32) (rsg : Nat → Int32) (psz : Int32) (pcd : Nat → Int32) (pld : Nat → Int32) (pct : Nat → Int64) (lpr : Int32) (lful : Bool) (ljn : Nat → Int32) (fsz : Int32) (fkd : Nat → Int32) (ffr : Nat → Int32) (fto : Nat → Int32) (p1 : Int32) (p2 : Int64) {rr : Int32} {o_askd : Int32} {o_answ : Nat → Int32} (hM : m_Or_verdict p1 p2 done brd tup tdn rlen rsg psz pcd pld pct lful ljn askd answ = some (.inr (rr, o_askd, o_answ))) : Ct l y_Or_verdict (WS y_Or_verdict b_Or_verdict 5 (some .int)) rm_Or_verdict D cT [.ref qO, .int p1, .long p2] [(qO, .inr (0, [.ref qT, .ref qR, .ref qP, .ref qL, .ref qF, .int done, .int brd, .int tup, .int tdn, .ref qOa, .int askd])), (qOa, .inl (cT 0, 149, .inl answ)), (qT, .inr (1, [.ref qTs, .int tlen, .int tpl])), (qTs, .inl (cT 2, 300, .inl tsg)), (qR, .inr (2, [.ref qRs, .int rlen, .int rsz])), (qRs, .inl (cT 2, 300, .inl rsg)), (qP, .inr (3, [.ref qPc, .ref qPl, .ref qPv, .int psz])), (qPc, .inl (cT 0, 12, .inl pcd)), (qPl, .inl (cT 0, 12, .inl pld)), (qPv, .inl (cT 1, 12, .inr (.inl pct))), (qL, .inr (4, [.ref qLj, .int lpr, .int (bI lful)])), (qLj, .inl (cT 0, 10, .inl ljn)), (qF, .inr (5, [.ref qFk, .ref qFf, .ref qFl, .int fsz])), (qFk, .inl (cT 0, 20, .inl fkd)), (qFf, .inl (cT 0, 20, .inl ffr)), (qFl, .inl (cT 0, 20, .inl fto))] (some (.int rr)) [(qO, .inr (0, [.ref qT, .ref qR, .ref qP, .ref qL, .ref qF, .int done, .int brd, .int tup, .int tdn, .ref qOa, .int o_askd])), (qOa, .inl (cT 0, 149, .inl o_answ)), (qT, .inr (1, [.ref qTs, .int tlen, .int tpl])), (qTs, .inl (cT 2, 300, .inl tsg)), (qR, .inr (2, [.ref qRs, .int rlen, .int rsz])), (qRs, .inl (cT 2, 300, .inl rsg)), (qP, .inr (3, [.ref qPc, .ref qPl, .ref qPv, .int psz])), (qPc, .inl (cT 0, 12, .inl pcd)), (qPl, .inl (cT 0, 12, .inl pld)), (qPv, .inl (cT 1, 12, .inr (.inl pct))), (qL, .inr (4, [.ref qLj, .int lpr, .int (bI lful)])), (qLj, .inl (cT 0, 10, .inl ljn)), (qF, .inr (5, [.ref qFk, .ref qFf, .ref qFl, .int fsz])), (qFk, .inl (cT 0, 20, .inl fkd)), (qFf, .inl (cT 0, 20, .inl ffr)), (qFl, .inl (cT 0, 20, .inl fto))] 0 0 := by
  intro sz
  refine Met.ofW (cc := b_Or_verdict) (maxL := 5) (ret := (some .int)) (by decide) rfl ?_
  intro p e s m args below meth c s₁ B hml hv
  obtain ⟨rfl, hsz, hP, hE, hD0⟩ := hv
  have hx := B.exec
  have hb := B.bytes
  have hr := B.returns
  have hts : ∀ w ∈ TB, w.before _ s = true := fun w h => atoms_spec (ws := WS y_Or_verdict b_Or_verdict 5 (some .int)) B.pre w (List.mem_cons_of_mem _ h)
  have hown : s.vm.findClass R_Or = some m.cls := findClass_of_methodNamed B.named
  have hlocks := B.notSynchronized
  have hK := hE.1
  have hN := hE.2
  subst hsz
  have hD := hD0.self (sz := s.heap.size)
  generalize hAe : va_A [(qO, .inr (0, [.ref qT, .ref qR, .ref qP, .ref qL, .ref qF, .int done, .int brd, .int tup, .int tdn, .ref qOa, .int askd])), (qOa, .inl (cT 0, 149, .inl answ)), (qT, .inr (1, [.ref qTs, .int tlen, .int tpl])), (qTs, .inl (cT 2, 300, .inl tsg)), (qR, .inr (2, [.ref qRs, .int rlen, .int rsz])), (qRs, .inl (cT 2, 300, .inl rsg)), (qP, .inr (3, [.ref qPc, .ref qPl, .ref qPv, .int psz])), (qPc, .inl (cT 0, 12, .inl pcd)), (qPl, .inl (cT 0, 12, .inl pld)), (qPv, .inl (cT 1, 12, .inr (.inl pct))), (qL, .inr (4, [.ref qLj, .int lpr, .int (bI lful)])), (qLj, .inl (cT 0, 10, .inl ljn)), (qF, .inr (5, [.ref qFk, .ref qFf, .ref qFl, .int fsz])), (qFk, .inl (cT 0, 20, .inl fkd)), (qFf, .inl (cT 0, 20, .inl ffr)), (qFl, .inl (cT 0, 20, .inl fto))] s.heap.size = A at hD ⊢
  have hA : ∀ q : Nat, s.heap.size ≤ q → A q := fun q h => by rw [← hAe]; exact Or.inr h
  have hS : va_S A s.heap s.heap [] := va_S.rf
  have hl := lv_entry ([.ref qO, .int p1, .long p2]) (n := 5) (Nat.le_of_ble_eq_true rfl)
  rw [lg_entry_eq]
  generalize (lg_sl ([.ref qO, .int p1, .long p2]) ++ List.replicate (5 - (lg_sl ([.ref qO, .int p1, .long p2])).length) Slot.unset).toArray = ls at hl ⊢
  have hl : lv_has ls 5 [(0, .ref qO), (1, .int p1), (2, .long p2)] := hl
  have S : CallFix p m c b_Or_verdict 5 s _ TB R_Or := ⟨hx, hb, hml, hown, hts⟩
  unfold m_Or_verdict at hM
  refine lv_iload_n hx hb d_Or_verdict_0 rfl (lv_at hl 1 rfl) ?_
  obtain ⟨r_1, hc_1, hM⟩ := bd1T hM
  refine ca_S (As := [.int p1]) (rest := []) (wr := [(qO, .inr (0, [.ref qT, .ref qR, .ref qP, .ref qL, .ref qF, .int done, .int brd, .int tup, .int tdn, .ref qOa, .int askd])), (qOa, .inl (cT 0, 149, .inl answ)), (qT, .inr (1, [.ref qTs, .int tlen, .int tpl])), (qTs, .inl (cT 2, 300, .inl tsg)), (qR, .inr (2, [.ref qRs, .int rlen, .int rsz])), (qRs, .inl (cT 2, 300, .inl rsg)), (qP, .inr (3, [.ref qPc, .ref qPl, .ref qPv, .int psz])), (qPc, .inl (cT 0, 12, .inl pcd)), (qPl, .inl (cT 0, 12, .inl pld)), (qPv, .inl (cT 1, 12, .inr (.inl pct))), (qL, .inr (4, [.ref qLj, .int lpr, .int (bI lful)])), (qLj, .inl (cT 0, 10, .inl ljn)), (qF, .inr (5, [.ref qFk, .ref qFf, .ref qFl, .int fsz])), (qFk, .inl (cT 0, 20, .inl fkd)), (qFf, .inl (cT 0, 20, .inl ffr)), (qFl, .inl (cT 0, 20, .inl fto))]) (w2 := [(qO, .inr (0, [.ref qT, .ref qR, .ref qP, .ref qL, .ref qF, .int done, .int brd, .int tup, .int tdn, .ref qOa, .int askd])), (qOa, .inl (cT 0, 149, .inl answ)), (qT, .inr (1, [.ref qTs, .int tlen, .int tpl])), (qTs, .inl (cT 2, 300, .inl tsg)), (qR, .inr (2, [.ref qRs, .int rlen, .int rsz])), (qRs, .inl (cT 2, 300, .inl rsg)), (qP, .inr (3, [.ref qPc, .ref qPl, .ref qPv, .int psz])), (qPc, .inl (cT 0, 12, .inl pcd)), (qPl, .inl (cT 0, 12, .inl pld)), (qPv, .inl (cT 1, 12, .inr (.inl pct))), (qL, .inr (4, [.ref qLj, .int lpr, .int (bI lful)])), (qLj, .inl (cT 0, 10, .inl ljn)), (qF, .inr (5, [.ref qFk, .ref qFf, .ref qFl, .int fsz])), (qFk, .inl (cT 0, 20, .inl fkd)), (qFf, .inl (cT 0, 20, .inl ffr)), (qFl, .inl (cT 0, 20, .inl fto))]) S hE (c_Or_isCode l D cT p1 hc_1) gw_078e8e0a rfl rfl ⟨Nat.le_of_ble_eq_true rfl, Nat.le_of_ble_eq_true rfl⟩ rfl hl.1 rfl (Nat.le_of_ble_eq_true rfl) d_Or_verdict_1 ⟨Nat.zero_le _, Nat.zero_le _⟩ hP hD hS hA [] [0, 1, 2, 3, 4, 5, 6, 7, 8, 9, 10, 11, 12, 13, 14, 15] [0, 1, 2, 3, 4, 5, 6, 7, 8, 9, 10, 11, 12, 13, 14, 15] rfl rfl (by decide) (by decide) rfl (by decide) (by decide) (fun H locs hP hD hS => ?_)
  refine lv_if_eq (tgt := 14) hx hb d_Or_verdict_4 (by decide) (fun c_4 => ?_) (fun c_4 => ?_)
  · have hM := itT hM c_4
    exact absurd hM (by simp)
  · have hM := itF hM c_4
    refine lv_lload_n hx hb d_Or_verdict_7 rfl (lv_at hl 2 rfl) ?_
    obtain ⟨r_8, hc_8, hM⟩ := bd1T hM
    refine ca_S (As := [.long p2]) (rest := []) (wr := [(qO, .inr (0, [.ref qT, .ref qR, .ref qP, .ref qL, .ref qF, .int done, .int brd, .int tup, .int tdn, .ref qOa, .int askd])), (qOa, .inl (cT 0, 149, .inl answ)), (qT, .inr (1, [.ref qTs, .int tlen, .int tpl])), (qTs, .inl (cT 2, 300, .inl tsg)), (qR, .inr (2, [.ref qRs, .int rlen, .int rsz])), (qRs, .inl (cT 2, 300, .inl rsg)), (qP, .inr (3, [.ref qPc, .ref qPl, .ref qPv, .int psz])), (qPc, .inl (cT 0, 12, .inl pcd)), (qPl, .inl (cT 0, 12, .inl pld)), (qPv, .inl (cT 1, 12, .inr (.inl pct))), (qL, .inr (4, [.ref qLj, .int lpr, .int (bI lful)])), (qLj, .inl (cT 0, 10, .inl ljn)), (qF, .inr (5, [.ref qFk, .ref qFf, .ref qFl, .int fsz])), (qFk, .inl (cT 0, 20, .inl fkd)), (qFf, .inl (cT 0, 20, .inl ffr)), (qFl, .inl (cT 0, 20, .inl fto))]) (w2 := [(qO, .inr (0, [.ref qT, .ref qR, .ref qP, .ref qL, .ref qF, .int done, .int brd, .int tup, .int tdn, .ref qOa, .int askd])), (qOa, .inl (cT 0, 149, .inl answ)), (qT, .inr (1, [.ref qTs, .int tlen, .int tpl])), (qTs, .inl (cT 2, 300, .inl tsg)), (qR, .inr (2, [.ref qRs, .int rlen, .int rsz])), (qRs, .inl (cT 2, 300, .inl rsg)), (qP, .inr (3, [.ref qPc, .ref qPl, .ref qPv, .int psz])), (qPc, .inl (cT 0, 12, .inl pcd)), (qPl, .inl (cT 0, 12, .inl pld)), (qPv, .inl (cT 1, 12, .inr (.inl pct))), (qL, .inr (4, [.ref qLj, .int lpr, .int (bI lful)])), (qLj, .inl (cT 0, 10, .inl ljn)), (qF, .inr (5, [.ref qFk, .ref qFf, .ref qFl, .int fsz])), (qFk, .inl (cT 0, 20, .inl fkd)), (qFf, .inl (cT 0, 20, .inl ffr)), (qFl, .inl (cT 0, 20, .inl fto))]) S hE (c_Or_isCents l D cT p2 hc_8) gw_25f3dde8 rfl rfl ⟨Nat.le_of_ble_eq_true rfl, Nat.le_of_ble_eq_true rfl⟩ rfl hl.1 rfl (Nat.le_of_ble_eq_true rfl) d_Or_verdict_8 ⟨Nat.zero_le _, Nat.zero_le _⟩ hP hD hS hA [] [0, 1, 2, 3, 4, 5, 6, 7, 8, 9, 10, 11, 12, 13, 14, 15] [0, 1, 2, 3, 4, 5, 6, 7, 8, 9, 10, 11, 12, 13, 14, 15] rfl rfl (by decide) (by decide) rfl (by decide) (by decide) (fun H locs hP hD hS => ?_)
    refine lv_if_ne (tgt := 24) hx hb d_Or_verdict_11 (by decide) (fun c_11 => ?_) (fun c_11 => ?_)
    · have hM := itF hM c_11
      refine lv_aload_n hx hb d_Or_verdict_24 rfl (lv_at hl 0 rfl) ?_
      refine va_get (D := D) (ci := 0) (v := .ref qR) (C := R_Or) (T := F_Or) (N := 11) hx hb hts i_Or hown hK hP 0 rfl rfl 1 (by decide) (hts _ iw_1ffb187c) (fun _ h9 => h9) rfl d_Or_verdict_25 ?_
      refine lv_iload_n hx hb d_Or_verdict_28 rfl (lv_at hl 1 rfl) ?_
      obtain ⟨r_29, hc_29, hM⟩ := bd1T hM
      refine ca_V (As := [.int p1]) (rest := []) (wr := [(qO, .inr (0, [.ref qT, .ref qR, .ref qP, .ref qL, .ref qF, .int done, .int brd, .int tup, .int tdn, .ref qOa, .int askd])), (qOa, .inl (cT 0, 149, .inl answ)), (qT, .inr (1, [.ref qTs, .int tlen, .int tpl])), (qTs, .inl (cT 2, 300, .inl tsg)), (qP, .inr (3, [.ref qPc, .ref qPl, .ref qPv, .int psz])), (qPc, .inl (cT 0, 12, .inl pcd)), (qPl, .inl (cT 0, 12, .inl pld)), (qPv, .inl (cT 1, 12, .inr (.inl pct))), (qL, .inr (4, [.ref qLj, .int lpr, .int (bI lful)])), (qLj, .inl (cT 0, 10, .inl ljn)), (qF, .inr (5, [.ref qFk, .ref qFf, .ref qFl, .int fsz])), (qFk, .inl (cT 0, 20, .inl fkd)), (qFf, .inl (cT 0, 20, .inl ffr)), (qFl, .inl (cT 0, 20, .inl fto))]) (w2 := [(qO, .inr (0, [.ref qT, .ref qR, .ref qP, .ref qL, .ref qF, .int done, .int brd, .int tup, .int tdn, .ref qOa, .int askd])), (qOa, .inl (cT 0, 149, .inl answ)), (qT, .inr (1, [.ref qTs, .int tlen, .int tpl])), (qTs, .inl (cT 2, 300, .inl tsg)), (qR, .inr (2, [.ref qRs, .int rlen, .int rsz])), (qRs, .inl (cT 2, 300, .inl rsg)), (qP, .inr (3, [.ref qPc, .ref qPl, .ref qPv, .int psz])), (qPc, .inl (cT 0, 12, .inl pcd)), (qPl, .inl (cT 0, 12, .inl pld)), (qPv, .inl (cT 1, 12, .inr (.inl pct))), (qL, .inr (4, [.ref qLj, .int lpr, .int (bI lful)])), (qLj, .inl (cT 0, 10, .inl ljn)), (qF, .inr (5, [.ref qFk, .ref qFf, .ref qFl, .int fsz])), (qFk, .inl (cT 0, 20, .inl fkd)), (qFf, .inl (cT 0, 20, .inl ffr)), (qFl, .inl (cT 0, 20, .inl fto))]) S hE (c_Rows_startFor l D cT qR qRs rlen rsz rsg p1 hc_29) gw_1de24a5f rfl rfl ⟨Nat.le_of_ble_eq_true rfl, Nat.le_of_ble_eq_true rfl⟩ (ci := 2) rfl rfl (k0 := 0) rfl rfl hl.1 rfl (Nat.le_of_ble_eq_true rfl) d_Or_verdict_29 ⟨Nat.zero_le _, Nat.zero_le _⟩ hP hD hS hA [4, 5] [0, 1, 2, 3, 6, 7, 8, 9, 10, 11, 12, 13, 14, 15] [0, 1, 2, 3, 14, 15, 4, 5, 6, 7, 8, 9, 10, 11, 12, 13] rfl rfl (by decide) (by decide) rfl (by decide) (by decide) (fun H locs hP hD hS => ?_)
      refine lv_istore (lv' := [(4, .int r_29), (0, .ref qO), (1, .int p1), (2, .long p2)]) hx hb d_Or_verdict_32 hl (by decide) rfl (fun ls hl => ?_)
      refine lv_iload hx hb d_Or_verdict_34 (lv_at hl 0 rfl) ?_
      refine lv_iconst (v := (-1)) hx hb d_Or_verdict_36 (by decide) ?_
      refine lv_icmp_ne (tgt := 42) hx hb d_Or_verdict_37 (by decide) (fun c_37 => ?_) (fun c_37 => ?_)
      · have hM := itF hM c_37
        refine lv_aload_n hx hb d_Or_verdict_42 rfl (lv_at hl 1 rfl) ?_
        refine va_get (D := D) (ci := 0) (v := .int done) (C := R_Or) (T := F_Or) (N := 11) hx hb hts i_Or hown hK hP 0 rfl rfl 5 (by decide) (hts _ iw_9350811e) (fun _ h9 => h9) rfl d_Or_verdict_43 ?_
        refine lv_if_eq (tgt := 65) hx hb d_Or_verdict_46 (by decide) (fun c_46 => ?_) (fun c_46 => ?_)
        · have hM := itT hM c_46
          refine lv_aload_n hx hb d_Or_verdict_65 rfl (lv_at hl 1 rfl) ?_
          refine lv_iload hx hb d_Or_verdict_66 (lv_at hl 0 rfl) ?_
          refine lv_iload_n hx hb d_Or_verdict_68 rfl (lv_at hl 2 rfl) ?_
          refine lv_lload_n hx hb d_Or_verdict_69 rfl (lv_at hl 3 rfl) ?_
          obtain ⟨r_70, askd_70, answ_70, hc_70, hM⟩ := bd3T hM
          refine ca_V (As := [.int r_29, .int p1, .long p2]) (rest := []) (wr := []) (w2 := [(qO, .inr (0, [.ref qT, .ref qR, .ref qP, .ref qL, .ref qF, .int done, .int brd, .int tup, .int tdn, .ref qOa, .int askd_70])), (qOa, .inl (cT 0, 149, .inl answ_70)), (qT, .inr (1, [.ref qTs, .int tlen, .int tpl])), (qTs, .inl (cT 2, 300, .inl tsg)), (qR, .inr (2, [.ref qRs, .int rlen, .int rsz])), (qRs, .inl (cT 2, 300, .inl rsg)), (qP, .inr (3, [.ref qPc, .ref qPl, .ref qPv, .int psz])), (qPc, .inl (cT 0, 12, .inl pcd)), (qPl, .inl (cT 0, 12, .inl pld)), (qPv, .inl (cT 1, 12, .inr (.inl pct))), (qL, .inr (4, [.ref qLj, .int lpr, .int (bI lful)])), (qLj, .inl (cT 0, 10, .inl ljn)), (qF, .inr (5, [.ref qFk, .ref qFf, .ref qFl, .int fsz])), (qFk, .inl (cT 0, 20, .inl fkd)), (qFf, .inl (cT 0, 20, .inl ffr)), (qFl, .inl (cT 0, 20, .inl fto))]) S hE (c_Or_ruleHolds l D cT qO qOa qT qTs qR qRs qP qPc qPl qPv qL qLj qF qFk qFf qFl done brd tup tdn askd answ tlen tpl tsg rlen rsz rsg psz pcd pld pct lpr lful ljn fsz fkd ffr fto r_29 p1 p2 hc_70) gw_a5cf097e rfl rfl ⟨Nat.le_of_ble_eq_true rfl, Nat.le_of_ble_eq_true rfl⟩ (ci := 0) rfl rfl (k0 := 0) rfl rfl hl.1 rfl (Nat.le_of_ble_eq_true rfl) d_Or_verdict_70 ⟨Nat.zero_le _, Nat.zero_le _⟩ hP hD hS hA [0, 1, 2, 3, 4, 5, 6, 7, 8, 9, 10, 11, 12, 13, 14, 15] [] [0, 1, 2, 3, 4, 5, 6, 7, 8, 9, 10, 11, 12, 13, 14, 15] rfl rfl (by decide) (by decide) rfl (by decide) (by decide) (fun H locs hP hD hS => ?_)
          refine lv_if_eq (tgt := 80) hx hb d_Or_verdict_73 (by decide) (fun c_73 => ?_) (fun c_73 => ?_)
          · have hM := itT hM c_73
            refine lv_iconst (v := 0) hx hb d_Or_verdict_80 (by decide) ?_
            have hM := inrT hM
            obtain ⟨eo0, eo1, eo2⟩ := so3T hM
            subst eo0
            subst eo1
            subst eo2
            exact rt_i S hr hlocks hP hD hS d_Or_verdict_81
          · have hM := itF hM c_73
            refine lv_iconst (v := 1) hx hb d_Or_verdict_76 (by decide) ?_
            refine lv_goto (tgt := 81) hx hb d_Or_verdict_77 (by decide) ?_
            have hM := inrT hM
            obtain ⟨eo0, eo1, eo2⟩ := so3T hM
            subst eo0
            subst eo1
            subst eo2
            exact rt_i S hr hlocks hP hD hS d_Or_verdict_81
        · have hM := itF hM c_46
          refine lv_aload_n hx hb d_Or_verdict_49 rfl (lv_at hl 1 rfl) ?_
          refine va_get (D := D) (ci := 0) (v := .int done) (C := R_Or) (T := F_Or) (N := 11) hx hb hts i_Or hown hK hP 0 rfl rfl 5 (by decide) (hts _ iw_9350811e) (fun _ h9 => h9) rfl d_Or_verdict_50 ?_
          refine lv_aload_n hx hb d_Or_verdict_53 rfl (lv_at hl 1 rfl) ?_
          refine va_get (D := D) (ci := 0) (v := .int brd) (C := R_Or) (T := F_Or) (N := 11) hx hb hts i_Or hown hK hP 0 rfl rfl 6 (by decide) (hts _ iw_e07d8303) (fun _ h9 => h9) rfl d_Or_verdict_54 ?_
          refine lv_iconst (v := (-1)) hx hb d_Or_verdict_57 (by decide) ?_
          refine lv_ixor hx hb d_Or_verdict_58 ?_
          refine lv_iand hx hb d_Or_verdict_59 ?_
          refine lv_if_ne (tgt := 65) hx hb d_Or_verdict_60 (by decide) (fun c_60 => ?_) (fun c_60 => ?_)
          · have hM := itF hM c_60
            refine lv_aload_n hx hb d_Or_verdict_65 rfl (lv_at hl 1 rfl) ?_
            refine lv_iload hx hb d_Or_verdict_66 (lv_at hl 0 rfl) ?_
            refine lv_iload_n hx hb d_Or_verdict_68 rfl (lv_at hl 2 rfl) ?_
            refine lv_lload_n hx hb d_Or_verdict_69 rfl (lv_at hl 3 rfl) ?_
            obtain ⟨r_70, askd_70, answ_70, hc_70, hM⟩ := bd3T hM
            refine ca_V (As := [.int r_29, .int p1, .long p2]) (rest := []) (wr := []) (w2 := [(qO, .inr (0, [.ref qT, .ref qR, .ref qP, .ref qL, .ref qF, .int done, .int brd, .int tup, .int tdn, .ref qOa, .int askd_70])), (qOa, .inl (cT 0, 149, .inl answ_70)), (qT, .inr (1, [.ref qTs, .int tlen, .int tpl])), (qTs, .inl (cT 2, 300, .inl tsg)), (qR, .inr (2, [.ref qRs, .int rlen, .int rsz])), (qRs, .inl (cT 2, 300, .inl rsg)), (qP, .inr (3, [.ref qPc, .ref qPl, .ref qPv, .int psz])), (qPc, .inl (cT 0, 12, .inl pcd)), (qPl, .inl (cT 0, 12, .inl pld)), (qPv, .inl (cT 1, 12, .inr (.inl pct))), (qL, .inr (4, [.ref qLj, .int lpr, .int (bI lful)])), (qLj, .inl (cT 0, 10, .inl ljn)), (qF, .inr (5, [.ref qFk, .ref qFf, .ref qFl, .int fsz])), (qFk, .inl (cT 0, 20, .inl fkd)), (qFf, .inl (cT 0, 20, .inl ffr)), (qFl, .inl (cT 0, 20, .inl fto))]) S hE (c_Or_ruleHolds l D cT qO qOa qT qTs qR qRs qP qPc qPl qPv qL qLj qF qFk qFf qFl done brd tup tdn askd answ tlen tpl tsg rlen rsz rsg psz pcd pld pct lpr lful ljn fsz fkd ffr fto r_29 p1 p2 hc_70) gw_a5cf097e rfl rfl ⟨Nat.le_of_ble_eq_true rfl, Nat.le_of_ble_eq_true rfl⟩ (ci := 0) rfl rfl (k0 := 0) rfl rfl hl.1 rfl (Nat.le_of_ble_eq_true rfl) d_Or_verdict_70 ⟨Nat.zero_le _, Nat.zero_le _⟩ hP hD hS hA [0, 1, 2, 3, 4, 5, 6, 7, 8, 9, 10, 11, 12, 13, 14, 15] [] [0, 1, 2, 3, 4, 5, 6, 7, 8, 9, 10, 11, 12, 13, 14, 15] rfl rfl (by decide) (by decide) rfl (by decide) (by decide) (fun H locs hP hD hS => ?_)
            refine lv_if_eq (tgt := 80) hx hb d_Or_verdict_73 (by decide) (fun c_73 => ?_) (fun c_73 => ?_)
            · have hM := itT hM c_73
              refine lv_iconst (v := 0) hx hb d_Or_verdict_80 (by decide) ?_
              have hM := inrT hM
              obtain ⟨eo0, eo1, eo2⟩ := so3T hM
              subst eo0
              subst eo1
              subst eo2
              exact rt_i S hr hlocks hP hD hS d_Or_verdict_81
            · have hM := itF hM c_73
              refine lv_iconst (v := 1) hx hb d_Or_verdict_76 (by decide) ?_
              refine lv_goto (tgt := 81) hx hb d_Or_verdict_77 (by decide) ?_
              have hM := inrT hM
              obtain ⟨eo0, eo1, eo2⟩ := so3T hM
              subst eo0
              subst eo1
              subst eo2
              exact rt_i S hr hlocks hP hD hS d_Or_verdict_81
          · have hM := itT hM c_60
            refine lv_iconst (v := 2) hx hb d_Or_verdict_63 (by decide) ?_
            have hM := inrT hM
            obtain ⟨eo0, eo1, eo2⟩ := so3T hM
            subst eo0
            subst eo1
            subst eo2
            exact rt_i S hr hlocks hP hD hS d_Or_verdict_64
      · have hM := itT hM c_37
        refine lv_iconst (v := 3) hx hb d_Or_verdict_40 (by decide) ?_
        have hM := inrT hM
        obtain ⟨eo0, eo1, eo2⟩ := so3T hM
        subst eo0
        subst eo1
        subst eo2
        exact rt_i S hr hlocks hP hD hS d_Or_verdict_41
    · have hM := itT hM c_11
      exact absurd hM (by simp)
def rm_Or_share : Room := { frames := 2, cells := 0, slots := 0, locals := 45 }
set_option maxHeartbeats 4000000 in
set_option maxRecDepth 100000 in
theorem c_Or_share (l : Launch) (D : va_G) (cT : Nat → ClassId) (qO : Nat) (qOa : Nat) (qT : Nat) (qTs : Nat) (qR : Nat) (qRs : Nat) (qP : Nat) (qPc : Nat) (qPl : Nat) (qPv : Nat) (qL : Nat) (qLj : Nat) (qF : Nat) (qFk : Nat) (qFf : Nat) (qFl : Nat) (done : Int32) (brd : Int32) (tup : Int32) (tdn : Int32) (askd : Int32) (answ : Nat → Int32) (tlen : Int32) (tpl : Int32) (tsg : Nat → Int32) (rlen : Int32) (rsz : Int32) (rsg : Nat → Int32) (psz : Int32) (pcd : Nat → Int32) (pld : Nat → Int32) (pct : Nat → Int64) (lpr : Int32) (lful : Bool) (ljn : Nat → Int32) (fsz : Int32) (fkd : Nat → Int32) (ffr : Nat → Int32) (fto : Nat → Int32) (p1 : Int64) (p2 : Int32) {rr : Int64} (hM : m_Or_share p1 p2 psz pld pct lful ljn = some (.inr rr)) : Ct l y_Or_share (WS y_Or_share b_Or_share 8 (some .long)) rm_Or_share D cT [.ref qO, .long p1, .int p2] [(qO, .inr (0, [.ref qT, .ref qR, .ref qP, .ref qL, .ref qF, .int done, .int brd, .int tup, .int tdn, .ref qOa, .int askd])), (qOa, .inl (cT 0, 149, .inl answ)), (qT, .inr (1, [.ref qTs, .int tlen, .int tpl])), (qTs, .inl (cT 2, 300, .inl tsg)), (qR, .inr (2, [.ref qRs, .int rlen, .int rsz])), (qRs, .inl (cT 2, 300, .inl rsg)), (qP, .inr (3, [.ref qPc, .ref qPl, .ref qPv, .int psz])), (qPc, .inl (cT 0, 12, .inl pcd)), (qPl, .inl (cT 0, 12, .inl pld)), (qPv, .inl (cT 1, 12, .inr (.inl pct))), (qL, .inr (4, [.ref qLj, .int lpr, .int (bI lful)])), (qLj, .inl (cT 0, 10, .inl ljn)), (qF, .inr (5, [.ref qFk, .ref qFf, .ref qFl, .int fsz])), (qFk, .inl (cT 0, 20, .inl fkd)), (qFf, .inl (cT 0, 20, .inl ffr)), (qFl, .inl (cT 0, 20, .inl fto))] (some (.long rr)) [(qO, .inr (0, [.ref qT, .ref qR, .ref qP, .ref qL, .ref qF, .int done, .int brd, .int tup, .int tdn, .ref qOa, .int askd])), (qOa, .inl (cT 0, 149, .inl answ)), (qT, .inr (1, [.ref qTs, .int tlen, .int tpl])), (qTs, .inl (cT 2, 300, .inl tsg)), (qR, .inr (2, [.ref qRs, .int rlen, .int rsz])), (qRs, .inl (cT 2, 300, .inl rsg)), (qP, .inr (3, [.ref qPc, .ref qPl, .ref qPv, .int psz])), (qPc, .inl (cT 0, 12, .inl pcd)), (qPl, .inl (cT 0, 12, .inl pld)), (qPv, .inl (cT 1, 12, .inr (.inl pct))), (qL, .inr (4, [.ref qLj, .int lpr, .int (bI lful)])), (qLj, .inl (cT 0, 10, .inl ljn)), (qF, .inr (5, [.ref qFk, .ref qFf, .ref qFl, .int fsz])), (qFk, .inl (cT 0, 20, .inl fkd)), (qFf, .inl (cT 0, 20, .inl ffr)), (qFl, .inl (cT 0, 20, .inl fto))] 0 0 := by
  intro sz
  refine Met.ofW (cc := b_Or_share) (maxL := 8) (ret := (some .long)) (by decide) rfl ?_
  intro p e s m args below meth c s₁ B hml hv
  obtain ⟨rfl, hsz, hP, hE, hD0⟩ := hv
  have hx := B.exec
  have hb := B.bytes
  have hr := B.returns
  have hts : ∀ w ∈ TB, w.before _ s = true := fun w h => atoms_spec (ws := WS y_Or_share b_Or_share 8 (some .long)) B.pre w (List.mem_cons_of_mem _ h)
  have hown : s.vm.findClass R_Or = some m.cls := findClass_of_methodNamed B.named
  have hlocks := B.notSynchronized
  have hK := hE.1
  have hN := hE.2
  subst hsz
  have hD := hD0.self (sz := s.heap.size)
  generalize hAe : va_A [(qO, .inr (0, [.ref qT, .ref qR, .ref qP, .ref qL, .ref qF, .int done, .int brd, .int tup, .int tdn, .ref qOa, .int askd])), (qOa, .inl (cT 0, 149, .inl answ)), (qT, .inr (1, [.ref qTs, .int tlen, .int tpl])), (qTs, .inl (cT 2, 300, .inl tsg)), (qR, .inr (2, [.ref qRs, .int rlen, .int rsz])), (qRs, .inl (cT 2, 300, .inl rsg)), (qP, .inr (3, [.ref qPc, .ref qPl, .ref qPv, .int psz])), (qPc, .inl (cT 0, 12, .inl pcd)), (qPl, .inl (cT 0, 12, .inl pld)), (qPv, .inl (cT 1, 12, .inr (.inl pct))), (qL, .inr (4, [.ref qLj, .int lpr, .int (bI lful)])), (qLj, .inl (cT 0, 10, .inl ljn)), (qF, .inr (5, [.ref qFk, .ref qFf, .ref qFl, .int fsz])), (qFk, .inl (cT 0, 20, .inl fkd)), (qFf, .inl (cT 0, 20, .inl ffr)), (qFl, .inl (cT 0, 20, .inl fto))] s.heap.size = A at hD ⊢
  have hA : ∀ q : Nat, s.heap.size ≤ q → A q := fun q h => by rw [← hAe]; exact Or.inr h
  have hS : va_S A s.heap s.heap [] := va_S.rf
  have hl := lv_entry ([.ref qO, .long p1, .int p2]) (n := 8) (Nat.le_of_ble_eq_true rfl)
  rw [lg_entry_eq]
  generalize (lg_sl ([.ref qO, .long p1, .int p2]) ++ List.replicate (8 - (lg_sl ([.ref qO, .long p1, .int p2])).length) Slot.unset).toArray = ls at hl ⊢
  have hl : lv_has ls 8 [(0, .ref qO), (1, .long p1), (3, .int p2)] := hl
  have S : CallFix p m c b_Or_share 8 s _ TB R_Or := ⟨hx, hb, hml, hown, hts⟩
  unfold m_Or_share at hM
  refine lv_lload_n hx hb d_Or_share_0 rfl (lv_at hl 1 rfl) ?_
  obtain ⟨r_1, hc_1, hM⟩ := bd1T hM
  refine ca_S (As := [.long p1]) (rest := []) (wr := [(qO, .inr (0, [.ref qT, .ref qR, .ref qP, .ref qL, .ref qF, .int done, .int brd, .int tup, .int tdn, .ref qOa, .int askd])), (qOa, .inl (cT 0, 149, .inl answ)), (qT, .inr (1, [.ref qTs, .int tlen, .int tpl])), (qTs, .inl (cT 2, 300, .inl tsg)), (qR, .inr (2, [.ref qRs, .int rlen, .int rsz])), (qRs, .inl (cT 2, 300, .inl rsg)), (qP, .inr (3, [.ref qPc, .ref qPl, .ref qPv, .int psz])), (qPc, .inl (cT 0, 12, .inl pcd)), (qPl, .inl (cT 0, 12, .inl pld)), (qPv, .inl (cT 1, 12, .inr (.inl pct))), (qL, .inr (4, [.ref qLj, .int lpr, .int (bI lful)])), (qLj, .inl (cT 0, 10, .inl ljn)), (qF, .inr (5, [.ref qFk, .ref qFf, .ref qFl, .int fsz])), (qFk, .inl (cT 0, 20, .inl fkd)), (qFf, .inl (cT 0, 20, .inl ffr)), (qFl, .inl (cT 0, 20, .inl fto))]) (w2 := [(qO, .inr (0, [.ref qT, .ref qR, .ref qP, .ref qL, .ref qF, .int done, .int brd, .int tup, .int tdn, .ref qOa, .int askd])), (qOa, .inl (cT 0, 149, .inl answ)), (qT, .inr (1, [.ref qTs, .int tlen, .int tpl])), (qTs, .inl (cT 2, 300, .inl tsg)), (qR, .inr (2, [.ref qRs, .int rlen, .int rsz])), (qRs, .inl (cT 2, 300, .inl rsg)), (qP, .inr (3, [.ref qPc, .ref qPl, .ref qPv, .int psz])), (qPc, .inl (cT 0, 12, .inl pcd)), (qPl, .inl (cT 0, 12, .inl pld)), (qPv, .inl (cT 1, 12, .inr (.inl pct))), (qL, .inr (4, [.ref qLj, .int lpr, .int (bI lful)])), (qLj, .inl (cT 0, 10, .inl ljn)), (qF, .inr (5, [.ref qFk, .ref qFf, .ref qFl, .int fsz])), (qFk, .inl (cT 0, 20, .inl fkd)), (qFf, .inl (cT 0, 20, .inl ffr)), (qFl, .inl (cT 0, 20, .inl fto))]) S hE (c_Or_isCents l D cT p1 hc_1) gw_25f3dde8 rfl rfl ⟨Nat.le_of_ble_eq_true rfl, Nat.le_of_ble_eq_true rfl⟩ rfl hl.1 rfl (Nat.le_of_ble_eq_true rfl) d_Or_share_1 ⟨Nat.zero_le _, Nat.zero_le _⟩ hP hD hS hA [] [0, 1, 2, 3, 4, 5, 6, 7, 8, 9, 10, 11, 12, 13, 14, 15] [0, 1, 2, 3, 4, 5, 6, 7, 8, 9, 10, 11, 12, 13, 14, 15] rfl rfl (by decide) (by decide) rfl (by decide) (by decide) (fun H locs hP hD hS => ?_)
  refine lv_if_eq (tgt := 16) hx hb d_Or_share_4 (by decide) (fun c_4 => ?_) (fun c_4 => ?_)
  · have hM := itT hM c_4
    exact absurd hM (by simp)
  · have hM := itF hM c_4
    refine lv_iload_n hx hb d_Or_share_7 rfl (lv_at hl 2 rfl) ?_
    refine lv_if_lt (tgt := 16) hx hb d_Or_share_8 (by decide) (fun c_8 => ?_) (fun c_8 => ?_)
    · have hM := itT hM c_8
      exact absurd hM (by simp)
    · have hM := itF hM c_8
      refine lv_iload_n hx hb d_Or_share_11 rfl (lv_at hl 2 rfl) ?_
      refine lv_iconst (v := 1) hx hb d_Or_share_12 (by decide) ?_
      refine lv_icmp_le (tgt := 26) hx hb d_Or_share_13 (by decide) (fun c_13 => ?_) (fun c_13 => ?_)
      · have hM := itT hM c_13
        refine lv_lload_n hx hb d_Or_share_26 rfl (lv_at hl 1 rfl) ?_
        refine lv_lconst (v := 0) hx hb d_Or_share_27 (by decide) ?_
        refine W.lcmp hx hb d_Or_share_28 ?_
        refine lv_if_ne (tgt := 42) hx hb d_Or_share_29 (by decide) (fun c_29 => ?_) (fun c_29 => ?_)
        · have hM := itF hM c_29
          refine lv_aload_n hx hb d_Or_share_42 rfl (lv_at hl 0 rfl) ?_
          refine va_get (D := D) (ci := 0) (v := .ref qP) (C := R_Or) (T := F_Or) (N := 11) hx hb hts i_Or hown hK hP 0 rfl rfl 2 (by decide) (hts _ iw_4820ce3a) (fun _ h9 => h9) rfl d_Or_share_43 ?_
          refine lv_aload_n hx hb d_Or_share_46 rfl (lv_at hl 0 rfl) ?_
          refine va_get (D := D) (ci := 0) (v := .ref qL) (C := R_Or) (T := F_Or) (N := 11) hx hb hts i_Or hown hK hP 0 rfl rfl 3 (by decide) (hts _ iw_d5228362) (fun _ h9 => h9) rfl d_Or_share_47 ?_
          obtain ⟨r_50, hc_50, hM⟩ := bd1T hM
          refine ca_V (As := []) (rest := [.ref qP]) (wr := [(qO, .inr (0, [.ref qT, .ref qR, .ref qP, .ref qL, .ref qF, .int done, .int brd, .int tup, .int tdn, .ref qOa, .int askd])), (qOa, .inl (cT 0, 149, .inl answ)), (qT, .inr (1, [.ref qTs, .int tlen, .int tpl])), (qTs, .inl (cT 2, 300, .inl tsg)), (qR, .inr (2, [.ref qRs, .int rlen, .int rsz])), (qRs, .inl (cT 2, 300, .inl rsg)), (qP, .inr (3, [.ref qPc, .ref qPl, .ref qPv, .int psz])), (qPc, .inl (cT 0, 12, .inl pcd)), (qPl, .inl (cT 0, 12, .inl pld)), (qPv, .inl (cT 1, 12, .inr (.inl pct))), (qF, .inr (5, [.ref qFk, .ref qFf, .ref qFl, .int fsz])), (qFk, .inl (cT 0, 20, .inl fkd)), (qFf, .inl (cT 0, 20, .inl ffr)), (qFl, .inl (cT 0, 20, .inl fto))]) (w2 := [(qO, .inr (0, [.ref qT, .ref qR, .ref qP, .ref qL, .ref qF, .int done, .int brd, .int tup, .int tdn, .ref qOa, .int askd])), (qOa, .inl (cT 0, 149, .inl answ)), (qT, .inr (1, [.ref qTs, .int tlen, .int tpl])), (qTs, .inl (cT 2, 300, .inl tsg)), (qR, .inr (2, [.ref qRs, .int rlen, .int rsz])), (qRs, .inl (cT 2, 300, .inl rsg)), (qP, .inr (3, [.ref qPc, .ref qPl, .ref qPv, .int psz])), (qPc, .inl (cT 0, 12, .inl pcd)), (qPl, .inl (cT 0, 12, .inl pld)), (qPv, .inl (cT 1, 12, .inr (.inl pct))), (qL, .inr (4, [.ref qLj, .int lpr, .int (bI lful)])), (qLj, .inl (cT 0, 10, .inl ljn)), (qF, .inr (5, [.ref qFk, .ref qFf, .ref qFl, .int fsz])), (qFk, .inl (cT 0, 20, .inl fkd)), (qFf, .inl (cT 0, 20, .inl ffr)), (qFl, .inl (cT 0, 20, .inl fto))]) S hE (c_Lands_ownLands l D cT qL qLj lpr lful ljn hc_50) gw_7c92819f rfl rfl ⟨Nat.le_of_ble_eq_true rfl, Nat.le_of_ble_eq_true rfl⟩ (ci := 4) rfl rfl (k0 := 0) rfl rfl hl.1 rfl (Nat.le_of_ble_eq_true rfl) d_Or_share_50 ⟨Nat.zero_le _, Nat.zero_le _⟩ hP hD hS hA [10, 11] [0, 1, 2, 3, 4, 5, 6, 7, 8, 9, 12, 13, 14, 15] [0, 1, 2, 3, 4, 5, 6, 7, 8, 9, 14, 15, 10, 11, 12, 13] rfl rfl (by decide) (by decide) rfl (by decide) (by decide) (fun H locs hP hD hS => ?_)
          obtain ⟨r_53, hc_53, hM⟩ := bd1T hM
          refine ca_V (As := [.int r_50]) (rest := []) (wr := [(qO, .inr (0, [.ref qT, .ref qR, .ref qP, .ref qL, .ref qF, .int done, .int brd, .int tup, .int tdn, .ref qOa, .int askd])), (qOa, .inl (cT 0, 149, .inl answ)), (qT, .inr (1, [.ref qTs, .int tlen, .int tpl])), (qTs, .inl (cT 2, 300, .inl tsg)), (qR, .inr (2, [.ref qRs, .int rlen, .int rsz])), (qRs, .inl (cT 2, 300, .inl rsg)), (qL, .inr (4, [.ref qLj, .int lpr, .int (bI lful)])), (qLj, .inl (cT 0, 10, .inl ljn)), (qF, .inr (5, [.ref qFk, .ref qFf, .ref qFl, .int fsz])), (qFk, .inl (cT 0, 20, .inl fkd)), (qFf, .inl (cT 0, 20, .inl ffr)), (qFl, .inl (cT 0, 20, .inl fto))]) (w2 := [(qO, .inr (0, [.ref qT, .ref qR, .ref qP, .ref qL, .ref qF, .int done, .int brd, .int tup, .int tdn, .ref qOa, .int askd])), (qOa, .inl (cT 0, 149, .inl answ)), (qT, .inr (1, [.ref qTs, .int tlen, .int tpl])), (qTs, .inl (cT 2, 300, .inl tsg)), (qR, .inr (2, [.ref qRs, .int rlen, .int rsz])), (qRs, .inl (cT 2, 300, .inl rsg)), (qP, .inr (3, [.ref qPc, .ref qPl, .ref qPv, .int psz])), (qPc, .inl (cT 0, 12, .inl pcd)), (qPl, .inl (cT 0, 12, .inl pld)), (qPv, .inl (cT 1, 12, .inr (.inl pct))), (qL, .inr (4, [.ref qLj, .int lpr, .int (bI lful)])), (qLj, .inl (cT 0, 10, .inl ljn)), (qF, .inr (5, [.ref qFk, .ref qFf, .ref qFl, .int fsz])), (qFk, .inl (cT 0, 20, .inl fkd)), (qFf, .inl (cT 0, 20, .inl ffr)), (qFl, .inl (cT 0, 20, .inl fto))]) S hE (c_Parts_foreignCents l D cT qP qPc qPl qPv psz pcd pld pct r_50 hc_53) gw_3e69858b rfl rfl ⟨Nat.le_of_ble_eq_true rfl, Nat.le_of_ble_eq_true rfl⟩ (ci := 3) rfl rfl (k0 := 0) rfl rfl hl.1 rfl (Nat.le_of_ble_eq_true rfl) d_Or_share_53 ⟨Nat.zero_le _, Nat.zero_le _⟩ hP hD hS hA [6, 7, 8, 9] [0, 1, 2, 3, 4, 5, 10, 11, 12, 13, 14, 15] [0, 1, 2, 3, 4, 5, 12, 13, 14, 15, 6, 7, 8, 9, 10, 11] rfl rfl (by decide) (by decide) rfl (by decide) (by decide) (fun H locs hP hD hS => ?_)
          refine lv_lstore (lv' := [(4, .long r_53), (0, .ref qO), (1, .long p1), (3, .int p2)]) hx hb d_Or_share_56 hl (by decide) rfl (fun ls hl => ?_)
          refine lv_lconst (v := 1) hx hb d_Or_share_58 (by decide) ?_
          refine lv_lload hx hb d_Or_share_59 (lv_at hl 0 rfl) ?_
          refine lv_lload_n hx hb d_Or_share_61 rfl (lv_at hl 2 rfl) ?_
          obtain ⟨r_62, hc_62, hM⟩ := bd1T hM
          refine ca_S (As := [.long r_53, .long p1]) (rest := [.long 1]) (wr := [(qO, .inr (0, [.ref qT, .ref qR, .ref qP, .ref qL, .ref qF, .int done, .int brd, .int tup, .int tdn, .ref qOa, .int askd])), (qOa, .inl (cT 0, 149, .inl answ)), (qT, .inr (1, [.ref qTs, .int tlen, .int tpl])), (qTs, .inl (cT 2, 300, .inl tsg)), (qR, .inr (2, [.ref qRs, .int rlen, .int rsz])), (qRs, .inl (cT 2, 300, .inl rsg)), (qP, .inr (3, [.ref qPc, .ref qPl, .ref qPv, .int psz])), (qPc, .inl (cT 0, 12, .inl pcd)), (qPl, .inl (cT 0, 12, .inl pld)), (qPv, .inl (cT 1, 12, .inr (.inl pct))), (qL, .inr (4, [.ref qLj, .int lpr, .int (bI lful)])), (qLj, .inl (cT 0, 10, .inl ljn)), (qF, .inr (5, [.ref qFk, .ref qFf, .ref qFl, .int fsz])), (qFk, .inl (cT 0, 20, .inl fkd)), (qFf, .inl (cT 0, 20, .inl ffr)), (qFl, .inl (cT 0, 20, .inl fto))]) (w2 := [(qO, .inr (0, [.ref qT, .ref qR, .ref qP, .ref qL, .ref qF, .int done, .int brd, .int tup, .int tdn, .ref qOa, .int askd])), (qOa, .inl (cT 0, 149, .inl answ)), (qT, .inr (1, [.ref qTs, .int tlen, .int tpl])), (qTs, .inl (cT 2, 300, .inl tsg)), (qR, .inr (2, [.ref qRs, .int rlen, .int rsz])), (qRs, .inl (cT 2, 300, .inl rsg)), (qP, .inr (3, [.ref qPc, .ref qPl, .ref qPv, .int psz])), (qPc, .inl (cT 0, 12, .inl pcd)), (qPl, .inl (cT 0, 12, .inl pld)), (qPv, .inl (cT 1, 12, .inr (.inl pct))), (qL, .inr (4, [.ref qLj, .int lpr, .int (bI lful)])), (qLj, .inl (cT 0, 10, .inl ljn)), (qF, .inr (5, [.ref qFk, .ref qFf, .ref qFl, .int fsz])), (qFk, .inl (cT 0, 20, .inl fkd)), (qFf, .inl (cT 0, 20, .inl ffr)), (qFl, .inl (cT 0, 20, .inl fto))]) S hE (c_Or_greatestDivisor l D cT r_53 p1 hc_62) gw_3e08720a rfl rfl ⟨Nat.le_of_ble_eq_true rfl, Nat.le_of_ble_eq_true rfl⟩ rfl hl.1 rfl (Nat.le_of_ble_eq_true rfl) d_Or_share_62 ⟨Nat.zero_le _, Nat.zero_le _⟩ hP hD hS hA [] [0, 1, 2, 3, 4, 5, 6, 7, 8, 9, 10, 11, 12, 13, 14, 15] [0, 1, 2, 3, 4, 5, 6, 7, 8, 9, 10, 11, 12, 13, 14, 15] rfl rfl (by decide) (by decide) rfl (by decide) (by decide) (fun H locs hP hD hS => ?_)
          refine va_mmax_long (rest := []) hx hb (by rw [hml]; exact hl.1.symm) hown (hts _ iw_46cd70fe) (hts _ iw_79af137a) (hts _ iw_c6cef573) (hts _ iw_cf8444e6) (Nat.le_of_ble_eq_true rfl) (Nat.le_of_ble_eq_true rfl) (Nat.zero_le _) (Nat.zero_le _) d_Or_share_65 ?_
          refine lv_lstore (lv' := [(6, .long (if r_62 < 1 then 1 else r_62)), (4, .long r_53), (0, .ref qO), (1, .long p1), (3, .int p2)]) hx hb d_Or_share_68 hl (by decide) rfl (fun ls hl => ?_)
          refine lv_iload_n hx hb d_Or_share_70 rfl (lv_at hl 4 rfl) ?_
          refine lv_if_ne (tgt := 79) hx hb d_Or_share_71 (by decide) (fun c_71 => ?_) (fun c_71 => ?_)
          · have hM := itF hM c_71
            refine lv_lload_n hx hb d_Or_share_79 rfl (lv_at hl 3 rfl) ?_
            refine lv_lload hx hb d_Or_share_80 (lv_at hl 0 rfl) ?_
            obtain ⟨hz_82, hM⟩ := nzTJ hM
            refine lv_ldiv hx hb d_Or_share_82 hz_82 ?_
            have hM := inrT hM
            have eo0 := Option.some.inj hM
            subst eo0
            exact rt_j S hr hlocks hP hD hS d_Or_share_83
          · have hM := itT hM c_71
            refine lv_lload hx hb d_Or_share_74 (lv_at hl 1 rfl) ?_
            refine lv_goto (tgt := 80) hx hb d_Or_share_76 (by decide) ?_
            refine lv_lload hx hb d_Or_share_80 (lv_at hl 0 rfl) ?_
            obtain ⟨hz_82, hM⟩ := nzTJ hM
            refine lv_ldiv hx hb d_Or_share_82 hz_82 ?_
            have hM := inrT hM
            have eo0 := Option.some.inj hM
            subst eo0
            exact rt_j S hr hlocks hP hD hS d_Or_share_83
        · have hM := itT hM c_29
          exact absurd hM (by simp)
      · have hM := itF hM c_13
        exact absurd hM (by simp)
def rm_Or_proof : Room := { frames := 1, cells := 0, slots := 0, locals := 23 }
set_option maxHeartbeats 4000000 in
set_option maxRecDepth 100000 in
theorem c_Or_proof (l : Launch) (D : va_G) (cT : Nat → ClassId) (qO : Nat) (qOa : Nat) (qT : Nat) (qTs : Nat) (qR : Nat) (qRs : Nat) (qP : Nat) (qPc : Nat) (qPl : Nat) (qPv : Nat) (qL : Nat) (qLj : Nat) (qF : Nat) (qFk : Nat) (qFf : Nat) (qFl : Nat) (done : Int32) (brd : Int32) (tup : Int32) (tdn : Int32) (askd : Int32) (answ : Nat → Int32) (tlen : Int32) (tpl : Int32) (tsg : Nat → Int32) (rlen : Int32) (rsz : Int32) (rsg : Nat → Int32) (psz : Int32) (pcd : Nat → Int32) (pld : Nat → Int32) (pct : Nat → Int64) (lpr : Int32) (lful : Bool) (ljn : Nat → Int32) (fsz : Int32) (fkd : Nat → Int32) (ffr : Nat → Int32) (fto : Nat → Int32) (p1 : Int32) (p2 : Int32) (p3 : Int32) {rr : Int32} {o_fsz : Int32} {o_fkd : Nat → Int32} {o_ffr : Nat → Int32} {o_fto : Nat → Int32} (hM : m_Or_proof p1 p2 p3 fsz fkd ffr fto = some (.inr (rr, o_fsz, o_fkd, o_ffr, o_fto))) : Ct l y_Or_proof (WS y_Or_proof b_Or_proof 4 (some .int)) rm_Or_proof D cT [.ref qO, .int p1, .int p2, .int p3] [(qO, .inr (0, [.ref qT, .ref qR, .ref qP, .ref qL, .ref qF, .int done, .int brd, .int tup, .int tdn, .ref qOa, .int askd])), (qOa, .inl (cT 0, 149, .inl answ)), (qT, .inr (1, [.ref qTs, .int tlen, .int tpl])), (qTs, .inl (cT 2, 300, .inl tsg)), (qR, .inr (2, [.ref qRs, .int rlen, .int rsz])), (qRs, .inl (cT 2, 300, .inl rsg)), (qP, .inr (3, [.ref qPc, .ref qPl, .ref qPv, .int psz])), (qPc, .inl (cT 0, 12, .inl pcd)), (qPl, .inl (cT 0, 12, .inl pld)), (qPv, .inl (cT 1, 12, .inr (.inl pct))), (qL, .inr (4, [.ref qLj, .int lpr, .int (bI lful)])), (qLj, .inl (cT 0, 10, .inl ljn)), (qF, .inr (5, [.ref qFk, .ref qFf, .ref qFl, .int fsz])), (qFk, .inl (cT 0, 20, .inl fkd)), (qFf, .inl (cT 0, 20, .inl ffr)), (qFl, .inl (cT 0, 20, .inl fto))] (some (.int rr)) [(qO, .inr (0, [.ref qT, .ref qR, .ref qP, .ref qL, .ref qF, .int done, .int brd, .int tup, .int tdn, .ref qOa, .int askd])), (qOa, .inl (cT 0, 149, .inl answ)), (qT, .inr (1, [.ref qTs, .int tlen, .int tpl])), (qTs, .inl (cT 2, 300, .inl tsg)), (qR, .inr (2, [.ref qRs, .int rlen, .int rsz])), (qRs, .inl (cT 2, 300, .inl rsg)), (qP, .inr (3, [.ref qPc, .ref qPl, .ref qPv, .int psz])), (qPc, .inl (cT 0, 12, .inl pcd)), (qPl, .inl (cT 0, 12, .inl pld)), (qPv, .inl (cT 1, 12, .inr (.inl pct))), (qL, .inr (4, [.ref qLj, .int lpr, .int (bI lful)])), (qLj, .inl (cT 0, 10, .inl ljn)), (qF, .inr (5, [.ref qFk, .ref qFf, .ref qFl, .int o_fsz])), (qFk, .inl (cT 0, 20, .inl o_fkd)), (qFf, .inl (cT 0, 20, .inl o_ffr)), (qFl, .inl (cT 0, 20, .inl o_fto))] 0 0 := by
  intro sz
  refine Met.ofW (cc := b_Or_proof) (maxL := 4) (ret := (some .int)) (by decide) rfl ?_
  intro p e s m args below meth c s₁ B hml hv
  obtain ⟨rfl, hsz, hP, hE, hD0⟩ := hv
  have hx := B.exec
  have hb := B.bytes
  have hr := B.returns
  have hts : ∀ w ∈ TB, w.before _ s = true := fun w h => atoms_spec (ws := WS y_Or_proof b_Or_proof 4 (some .int)) B.pre w (List.mem_cons_of_mem _ h)
  have hown : s.vm.findClass R_Or = some m.cls := findClass_of_methodNamed B.named
  have hlocks := B.notSynchronized
  have hK := hE.1
  have hN := hE.2
  subst hsz
  have hD := hD0.self (sz := s.heap.size)
  generalize hAe : va_A [(qO, .inr (0, [.ref qT, .ref qR, .ref qP, .ref qL, .ref qF, .int done, .int brd, .int tup, .int tdn, .ref qOa, .int askd])), (qOa, .inl (cT 0, 149, .inl answ)), (qT, .inr (1, [.ref qTs, .int tlen, .int tpl])), (qTs, .inl (cT 2, 300, .inl tsg)), (qR, .inr (2, [.ref qRs, .int rlen, .int rsz])), (qRs, .inl (cT 2, 300, .inl rsg)), (qP, .inr (3, [.ref qPc, .ref qPl, .ref qPv, .int psz])), (qPc, .inl (cT 0, 12, .inl pcd)), (qPl, .inl (cT 0, 12, .inl pld)), (qPv, .inl (cT 1, 12, .inr (.inl pct))), (qL, .inr (4, [.ref qLj, .int lpr, .int (bI lful)])), (qLj, .inl (cT 0, 10, .inl ljn)), (qF, .inr (5, [.ref qFk, .ref qFf, .ref qFl, .int fsz])), (qFk, .inl (cT 0, 20, .inl fkd)), (qFf, .inl (cT 0, 20, .inl ffr)), (qFl, .inl (cT 0, 20, .inl fto))] s.heap.size = A at hD ⊢
  have hA : ∀ q : Nat, s.heap.size ≤ q → A q := fun q h => by rw [← hAe]; exact Or.inr h
  have hS : va_S A s.heap s.heap [] := va_S.rf
  have hl := lv_entry ([.ref qO, .int p1, .int p2, .int p3]) (n := 4) (Nat.le_of_ble_eq_true rfl)
  rw [lg_entry_eq]
  generalize (lg_sl ([.ref qO, .int p1, .int p2, .int p3]) ++ List.replicate (4 - (lg_sl ([.ref qO, .int p1, .int p2, .int p3])).length) Slot.unset).toArray = ls at hl ⊢
  have hl : lv_has ls 4 [(0, .ref qO), (1, .int p1), (2, .int p2), (3, .int p3)] := hl
  have S : CallFix p m c b_Or_proof 4 s _ TB R_Or := ⟨hx, hb, hml, hown, hts⟩
  unfold m_Or_proof at hM
  refine lv_iload_n hx hb d_Or_proof_0 rfl (lv_at hl 1 rfl) ?_
  refine lv_if_lt (tgt := 28) hx hb d_Or_proof_1 (by decide) (fun c_1 => ?_) (fun c_1 => ?_)
  · have hM := itT hM c_1
    exact absurd hM (by simp)
  · have hM := itF hM c_1
    refine lv_iload_n hx hb d_Or_proof_4 rfl (lv_at hl 1 rfl) ?_
    refine lv_iconst (v := 1) hx hb d_Or_proof_5 (by decide) ?_
    refine lv_icmp_gt (tgt := 28) hx hb d_Or_proof_6 (by decide) (fun c_6 => ?_) (fun c_6 => ?_)
    · have hM := itT hM c_6
      exact absurd hM (by simp)
    · have hM := itF hM c_6
      refine lv_iload_n hx hb d_Or_proof_9 rfl (lv_at hl 2 rfl) ?_
      obtain ⟨r_10, hc_10, hM⟩ := bd1T hM
      refine ca_S (As := [.int p2]) (rest := []) (wr := [(qO, .inr (0, [.ref qT, .ref qR, .ref qP, .ref qL, .ref qF, .int done, .int brd, .int tup, .int tdn, .ref qOa, .int askd])), (qOa, .inl (cT 0, 149, .inl answ)), (qT, .inr (1, [.ref qTs, .int tlen, .int tpl])), (qTs, .inl (cT 2, 300, .inl tsg)), (qR, .inr (2, [.ref qRs, .int rlen, .int rsz])), (qRs, .inl (cT 2, 300, .inl rsg)), (qP, .inr (3, [.ref qPc, .ref qPl, .ref qPv, .int psz])), (qPc, .inl (cT 0, 12, .inl pcd)), (qPl, .inl (cT 0, 12, .inl pld)), (qPv, .inl (cT 1, 12, .inr (.inl pct))), (qL, .inr (4, [.ref qLj, .int lpr, .int (bI lful)])), (qLj, .inl (cT 0, 10, .inl ljn)), (qF, .inr (5, [.ref qFk, .ref qFf, .ref qFl, .int fsz])), (qFk, .inl (cT 0, 20, .inl fkd)), (qFf, .inl (cT 0, 20, .inl ffr)), (qFl, .inl (cT 0, 20, .inl fto))]) (w2 := [(qO, .inr (0, [.ref qT, .ref qR, .ref qP, .ref qL, .ref qF, .int done, .int brd, .int tup, .int tdn, .ref qOa, .int askd])), (qOa, .inl (cT 0, 149, .inl answ)), (qT, .inr (1, [.ref qTs, .int tlen, .int tpl])), (qTs, .inl (cT 2, 300, .inl tsg)), (qR, .inr (2, [.ref qRs, .int rlen, .int rsz])), (qRs, .inl (cT 2, 300, .inl rsg)), (qP, .inr (3, [.ref qPc, .ref qPl, .ref qPv, .int psz])), (qPc, .inl (cT 0, 12, .inl pcd)), (qPl, .inl (cT 0, 12, .inl pld)), (qPv, .inl (cT 1, 12, .inr (.inl pct))), (qL, .inr (4, [.ref qLj, .int lpr, .int (bI lful)])), (qLj, .inl (cT 0, 10, .inl ljn)), (qF, .inr (5, [.ref qFk, .ref qFf, .ref qFl, .int fsz])), (qFk, .inl (cT 0, 20, .inl fkd)), (qFf, .inl (cT 0, 20, .inl ffr)), (qFl, .inl (cT 0, 20, .inl fto))]) S hE (c_Or_isDay l D cT p2 hc_10) gw_11477108 rfl rfl ⟨Nat.le_of_ble_eq_true rfl, Nat.le_of_ble_eq_true rfl⟩ rfl hl.1 rfl (Nat.le_of_ble_eq_true rfl) d_Or_proof_10 ⟨Nat.zero_le _, Nat.zero_le _⟩ hP hD hS hA [] [0, 1, 2, 3, 4, 5, 6, 7, 8, 9, 10, 11, 12, 13, 14, 15] [0, 1, 2, 3, 4, 5, 6, 7, 8, 9, 10, 11, 12, 13, 14, 15] rfl rfl (by decide) (by decide) rfl (by decide) (by decide) (fun H locs hP hD hS => ?_)
      refine lv_if_eq (tgt := 28) hx hb d_Or_proof_13 (by decide) (fun c_13 => ?_) (fun c_13 => ?_)
      · have hM := itT hM c_13
        exact absurd hM (by simp)
      · have hM := itF hM c_13
        refine lv_iload_n hx hb d_Or_proof_16 rfl (lv_at hl 3 rfl) ?_
        obtain ⟨r_17, hc_17, hM⟩ := bd1T hM
        refine ca_S (As := [.int p3]) (rest := []) (wr := [(qO, .inr (0, [.ref qT, .ref qR, .ref qP, .ref qL, .ref qF, .int done, .int brd, .int tup, .int tdn, .ref qOa, .int askd])), (qOa, .inl (cT 0, 149, .inl answ)), (qT, .inr (1, [.ref qTs, .int tlen, .int tpl])), (qTs, .inl (cT 2, 300, .inl tsg)), (qR, .inr (2, [.ref qRs, .int rlen, .int rsz])), (qRs, .inl (cT 2, 300, .inl rsg)), (qP, .inr (3, [.ref qPc, .ref qPl, .ref qPv, .int psz])), (qPc, .inl (cT 0, 12, .inl pcd)), (qPl, .inl (cT 0, 12, .inl pld)), (qPv, .inl (cT 1, 12, .inr (.inl pct))), (qL, .inr (4, [.ref qLj, .int lpr, .int (bI lful)])), (qLj, .inl (cT 0, 10, .inl ljn)), (qF, .inr (5, [.ref qFk, .ref qFf, .ref qFl, .int fsz])), (qFk, .inl (cT 0, 20, .inl fkd)), (qFf, .inl (cT 0, 20, .inl ffr)), (qFl, .inl (cT 0, 20, .inl fto))]) (w2 := [(qO, .inr (0, [.ref qT, .ref qR, .ref qP, .ref qL, .ref qF, .int done, .int brd, .int tup, .int tdn, .ref qOa, .int askd])), (qOa, .inl (cT 0, 149, .inl answ)), (qT, .inr (1, [.ref qTs, .int tlen, .int tpl])), (qTs, .inl (cT 2, 300, .inl tsg)), (qR, .inr (2, [.ref qRs, .int rlen, .int rsz])), (qRs, .inl (cT 2, 300, .inl rsg)), (qP, .inr (3, [.ref qPc, .ref qPl, .ref qPv, .int psz])), (qPc, .inl (cT 0, 12, .inl pcd)), (qPl, .inl (cT 0, 12, .inl pld)), (qPv, .inl (cT 1, 12, .inr (.inl pct))), (qL, .inr (4, [.ref qLj, .int lpr, .int (bI lful)])), (qLj, .inl (cT 0, 10, .inl ljn)), (qF, .inr (5, [.ref qFk, .ref qFf, .ref qFl, .int fsz])), (qFk, .inl (cT 0, 20, .inl fkd)), (qFf, .inl (cT 0, 20, .inl ffr)), (qFl, .inl (cT 0, 20, .inl fto))]) S hE (c_Or_isDay l D cT p3 hc_17) gw_11477108 rfl rfl ⟨Nat.le_of_ble_eq_true rfl, Nat.le_of_ble_eq_true rfl⟩ rfl hl.1 rfl (Nat.le_of_ble_eq_true rfl) d_Or_proof_17 ⟨Nat.zero_le _, Nat.zero_le _⟩ hP hD hS hA [] [0, 1, 2, 3, 4, 5, 6, 7, 8, 9, 10, 11, 12, 13, 14, 15] [0, 1, 2, 3, 4, 5, 6, 7, 8, 9, 10, 11, 12, 13, 14, 15] rfl rfl (by decide) (by decide) rfl (by decide) (by decide) (fun H locs hP hD hS => ?_)
        refine lv_if_eq (tgt := 28) hx hb d_Or_proof_20 (by decide) (fun c_20 => ?_) (fun c_20 => ?_)
        · have hM := itT hM c_20
          exact absurd hM (by simp)
        · have hM := itF hM c_20
          refine lv_iload_n hx hb d_Or_proof_23 rfl (lv_at hl 2 rfl) ?_
          refine lv_iload_n hx hb d_Or_proof_24 rfl (lv_at hl 3 rfl) ?_
          refine lv_icmp_le (tgt := 38) hx hb d_Or_proof_25 (by decide) (fun c_25 => ?_) (fun c_25 => ?_)
          · have hM := itT hM c_25
            refine lv_aload_n hx hb d_Or_proof_38 rfl (lv_at hl 0 rfl) ?_
            refine va_get (D := D) (ci := 0) (v := .ref qF) (C := R_Or) (T := F_Or) (N := 11) hx hb hts i_Or hown hK hP 0 rfl rfl 4 (by decide) (hts _ iw_653e2ba4) (fun _ h9 => h9) rfl d_Or_proof_39 ?_
            refine va_getN (D := D) (ci := 5) (v := .int fsz) (C := R_Proofs) (T := F_Proofs) (N := 4) hx hb hts i_Proofs hown hK hP 12 rfl rfl 3 (by decide) (va_Nw.use rfl (hN _ nl_564914ee)) (fun _ h9 => h9) rfl d_Or_proof_42 ?_
            refine lv_bipush (v := 20) hx hb d_Or_proof_45 (by decide) ?_
            refine lv_icmp_lt (tgt := 60) hx hb d_Or_proof_47 (by decide) (fun c_47 => ?_) (fun c_47 => ?_)
            · have hM := itT hM c_47
              refine lv_aload_n hx hb d_Or_proof_60 rfl (lv_at hl 0 rfl) ?_
              refine va_get (D := D) (ci := 0) (v := .ref qF) (C := R_Or) (T := F_Or) (N := 11) hx hb hts i_Or hown hK hP 0 rfl rfl 4 (by decide) (hts _ iw_653e2ba4) (fun _ h9 => h9) rfl d_Or_proof_61 ?_
              refine lv_iload_n hx hb d_Or_proof_64 rfl (lv_at hl 1 rfl) ?_
              refine lv_iload_n hx hb d_Or_proof_65 rfl (lv_at hl 2 rfl) ?_
              refine lv_iload_n hx hb d_Or_proof_66 rfl (lv_at hl 3 rfl) ?_
              obtain ⟨r_67, fsz_67, fkd_67, ffr_67, fto_67, hc_67, hM⟩ := bd5T hM
              refine ca_V (As := [.int p1, .int p2, .int p3]) (rest := []) (wr := [(qO, .inr (0, [.ref qT, .ref qR, .ref qP, .ref qL, .ref qF, .int done, .int brd, .int tup, .int tdn, .ref qOa, .int askd])), (qOa, .inl (cT 0, 149, .inl answ)), (qT, .inr (1, [.ref qTs, .int tlen, .int tpl])), (qTs, .inl (cT 2, 300, .inl tsg)), (qR, .inr (2, [.ref qRs, .int rlen, .int rsz])), (qRs, .inl (cT 2, 300, .inl rsg)), (qP, .inr (3, [.ref qPc, .ref qPl, .ref qPv, .int psz])), (qPc, .inl (cT 0, 12, .inl pcd)), (qPl, .inl (cT 0, 12, .inl pld)), (qPv, .inl (cT 1, 12, .inr (.inl pct))), (qL, .inr (4, [.ref qLj, .int lpr, .int (bI lful)])), (qLj, .inl (cT 0, 10, .inl ljn))]) (w2 := [(qO, .inr (0, [.ref qT, .ref qR, .ref qP, .ref qL, .ref qF, .int done, .int brd, .int tup, .int tdn, .ref qOa, .int askd])), (qOa, .inl (cT 0, 149, .inl answ)), (qT, .inr (1, [.ref qTs, .int tlen, .int tpl])), (qTs, .inl (cT 2, 300, .inl tsg)), (qR, .inr (2, [.ref qRs, .int rlen, .int rsz])), (qRs, .inl (cT 2, 300, .inl rsg)), (qP, .inr (3, [.ref qPc, .ref qPl, .ref qPv, .int psz])), (qPc, .inl (cT 0, 12, .inl pcd)), (qPl, .inl (cT 0, 12, .inl pld)), (qPv, .inl (cT 1, 12, .inr (.inl pct))), (qL, .inr (4, [.ref qLj, .int lpr, .int (bI lful)])), (qLj, .inl (cT 0, 10, .inl ljn)), (qF, .inr (5, [.ref qFk, .ref qFf, .ref qFl, .int fsz_67])), (qFk, .inl (cT 0, 20, .inl fkd_67)), (qFf, .inl (cT 0, 20, .inl ffr_67)), (qFl, .inl (cT 0, 20, .inl fto_67))]) S hE (c_Proofs_add l D cT qF qFk qFf qFl fsz fkd ffr fto p1 p2 p3 hc_67) gw_65262eac rfl rfl ⟨Nat.le_of_ble_eq_true rfl, Nat.le_of_ble_eq_true rfl⟩ (ci := 5) rfl rfl (k0 := 0) rfl rfl hl.1 rfl (Nat.le_of_ble_eq_true rfl) d_Or_proof_67 ⟨Nat.zero_le _, Nat.zero_le _⟩ hP hD hS hA [12, 13, 14, 15] [0, 1, 2, 3, 4, 5, 6, 7, 8, 9, 10, 11] [0, 1, 2, 3, 4, 5, 6, 7, 8, 9, 10, 11, 12, 13, 14, 15] rfl rfl (by decide) (by decide) rfl (by decide) (by decide) (fun H locs hP hD hS => ?_)
              have hM := inrT hM
              obtain ⟨eo0, eo1, eo2, eo3, eo4⟩ := so5T hM
              subst eo0
              subst eo1
              subst eo2
              subst eo3
              subst eo4
              exact rt_i S hr hlocks hP hD hS d_Or_proof_70
            · have hM := itF hM c_47
              exact absurd hM (by simp)
          · have hM := itF hM c_25
            exact absurd hM (by simp)
def rm_Or_good : Room := { frames := 1, cells := 0, slots := 0, locals := 25 }
set_option maxHeartbeats 4000000 in
set_option maxRecDepth 100000 in
theorem c_Or_good (l : Launch) (D : va_G) (cT : Nat → ClassId) (qO : Nat) (qOa : Nat) (qT : Nat) (qTs : Nat) (qR : Nat) (qRs : Nat) (qP : Nat) (qPc : Nat) (qPl : Nat) (qPv : Nat) (qL : Nat) (qLj : Nat) (qF : Nat) (qFk : Nat) (qFf : Nat) (qFl : Nat) (done : Int32) (brd : Int32) (tup : Int32) (tdn : Int32) (askd : Int32) (answ : Nat → Int32) (tlen : Int32) (tpl : Int32) (tsg : Nat → Int32) (rlen : Int32) (rsz : Int32) (rsg : Nat → Int32) (psz : Int32) (pcd : Nat → Int32) (pld : Nat → Int32) (pct : Nat → Int64) (lpr : Int32) (lful : Bool) (ljn : Nat → Int32) (fsz : Int32) (fkd : Nat → Int32) (ffr : Nat → Int32) (fto : Nat → Int32) (p1 : Int32) (p2 : Int64) (p3 : Int32) {rr : Bool} (hM : m_Or_good p1 p2 p3 fsz fkd ffr fto = some (.inr rr)) : Ct l y_Or_good (WS y_Or_good b_Or_good 5 (some .boolean)) rm_Or_good D cT [.ref qO, .int p1, .long p2, .int p3] [(qO, .inr (0, [.ref qT, .ref qR, .ref qP, .ref qL, .ref qF, .int done, .int brd, .int tup, .int tdn, .ref qOa, .int askd])), (qOa, .inl (cT 0, 149, .inl answ)), (qT, .inr (1, [.ref qTs, .int tlen, .int tpl])), (qTs, .inl (cT 2, 300, .inl tsg)), (qR, .inr (2, [.ref qRs, .int rlen, .int rsz])), (qRs, .inl (cT 2, 300, .inl rsg)), (qP, .inr (3, [.ref qPc, .ref qPl, .ref qPv, .int psz])), (qPc, .inl (cT 0, 12, .inl pcd)), (qPl, .inl (cT 0, 12, .inl pld)), (qPv, .inl (cT 1, 12, .inr (.inl pct))), (qL, .inr (4, [.ref qLj, .int lpr, .int (bI lful)])), (qLj, .inl (cT 0, 10, .inl ljn)), (qF, .inr (5, [.ref qFk, .ref qFf, .ref qFl, .int fsz])), (qFk, .inl (cT 0, 20, .inl fkd)), (qFf, .inl (cT 0, 20, .inl ffr)), (qFl, .inl (cT 0, 20, .inl fto))] (some (.int (bI rr))) [(qO, .inr (0, [.ref qT, .ref qR, .ref qP, .ref qL, .ref qF, .int done, .int brd, .int tup, .int tdn, .ref qOa, .int askd])), (qOa, .inl (cT 0, 149, .inl answ)), (qT, .inr (1, [.ref qTs, .int tlen, .int tpl])), (qTs, .inl (cT 2, 300, .inl tsg)), (qR, .inr (2, [.ref qRs, .int rlen, .int rsz])), (qRs, .inl (cT 2, 300, .inl rsg)), (qP, .inr (3, [.ref qPc, .ref qPl, .ref qPv, .int psz])), (qPc, .inl (cT 0, 12, .inl pcd)), (qPl, .inl (cT 0, 12, .inl pld)), (qPv, .inl (cT 1, 12, .inr (.inl pct))), (qL, .inr (4, [.ref qLj, .int lpr, .int (bI lful)])), (qLj, .inl (cT 0, 10, .inl ljn)), (qF, .inr (5, [.ref qFk, .ref qFf, .ref qFl, .int fsz])), (qFk, .inl (cT 0, 20, .inl fkd)), (qFf, .inl (cT 0, 20, .inl ffr)), (qFl, .inl (cT 0, 20, .inl fto))] 0 0 := by
  intro sz
  refine Met.ofW (cc := b_Or_good) (maxL := 5) (ret := (some .boolean)) (by decide) rfl ?_
  intro p e s m args below meth c s₁ B hml hv
  obtain ⟨rfl, hsz, hP, hE, hD0⟩ := hv
  have hx := B.exec
  have hb := B.bytes
  have hr := B.returns
  have hts : ∀ w ∈ TB, w.before _ s = true := fun w h => atoms_spec (ws := WS y_Or_good b_Or_good 5 (some .boolean)) B.pre w (List.mem_cons_of_mem _ h)
  have hown : s.vm.findClass R_Or = some m.cls := findClass_of_methodNamed B.named
  have hlocks := B.notSynchronized
  have hK := hE.1
  have hN := hE.2
  subst hsz
  have hD := hD0.self (sz := s.heap.size)
  generalize hAe : va_A [(qO, .inr (0, [.ref qT, .ref qR, .ref qP, .ref qL, .ref qF, .int done, .int brd, .int tup, .int tdn, .ref qOa, .int askd])), (qOa, .inl (cT 0, 149, .inl answ)), (qT, .inr (1, [.ref qTs, .int tlen, .int tpl])), (qTs, .inl (cT 2, 300, .inl tsg)), (qR, .inr (2, [.ref qRs, .int rlen, .int rsz])), (qRs, .inl (cT 2, 300, .inl rsg)), (qP, .inr (3, [.ref qPc, .ref qPl, .ref qPv, .int psz])), (qPc, .inl (cT 0, 12, .inl pcd)), (qPl, .inl (cT 0, 12, .inl pld)), (qPv, .inl (cT 1, 12, .inr (.inl pct))), (qL, .inr (4, [.ref qLj, .int lpr, .int (bI lful)])), (qLj, .inl (cT 0, 10, .inl ljn)), (qF, .inr (5, [.ref qFk, .ref qFf, .ref qFl, .int fsz])), (qFk, .inl (cT 0, 20, .inl fkd)), (qFf, .inl (cT 0, 20, .inl ffr)), (qFl, .inl (cT 0, 20, .inl fto))] s.heap.size = A at hD ⊢
  have hA : ∀ q : Nat, s.heap.size ≤ q → A q := fun q h => by rw [← hAe]; exact Or.inr h
  have hS : va_S A s.heap s.heap [] := va_S.rf
  have hl := lv_entry ([.ref qO, .int p1, .long p2, .int p3]) (n := 5) (Nat.le_of_ble_eq_true rfl)
  rw [lg_entry_eq]
  generalize (lg_sl ([.ref qO, .int p1, .long p2, .int p3]) ++ List.replicate (5 - (lg_sl ([.ref qO, .int p1, .long p2, .int p3])).length) Slot.unset).toArray = ls at hl ⊢
  have hl : lv_has ls 5 [(0, .ref qO), (1, .int p1), (2, .long p2), (4, .int p3)] := hl
  have S : CallFix p m c b_Or_good 5 s _ TB R_Or := ⟨hx, hb, hml, hown, hts⟩
  unfold m_Or_good at hM
  refine lv_iload_n hx hb d_Or_good_0 rfl (lv_at hl 1 rfl) ?_
  refine lv_if_lt (tgt := 30) hx hb d_Or_good_1 (by decide) (fun c_1 => ?_) (fun c_1 => ?_)
  · have hM := itT hM c_1
    exact absurd hM (by simp)
  · have hM := itF hM c_1
    refine lv_iload_n hx hb d_Or_good_4 rfl (lv_at hl 1 rfl) ?_
    refine lv_aload_n hx hb d_Or_good_5 rfl (lv_at hl 0 rfl) ?_
    refine va_get (D := D) (ci := 0) (v := .ref qF) (C := R_Or) (T := F_Or) (N := 11) hx hb hts i_Or hown hK hP 0 rfl rfl 4 (by decide) (hts _ iw_653e2ba4) (fun _ h9 => h9) rfl d_Or_good_6 ?_
    refine va_getN (D := D) (ci := 5) (v := .int fsz) (C := R_Proofs) (T := F_Proofs) (N := 4) hx hb hts i_Proofs hown hK hP 12 rfl rfl 3 (by decide) (va_Nw.use rfl (hN _ nl_564914ee)) (fun _ h9 => h9) rfl d_Or_good_9 ?_
    refine lv_icmp_ge (tgt := 30) hx hb d_Or_good_12 (by decide) (fun c_12 => ?_) (fun c_12 => ?_)
    · have hM := itT hM c_12
      exact absurd hM (by simp)
    · have hM := itF hM c_12
      refine lv_lload_n hx hb d_Or_good_15 rfl (lv_at hl 2 rfl) ?_
      obtain ⟨r_16, hc_16, hM⟩ := bd1T hM
      refine ca_S (As := [.long p2]) (rest := []) (wr := [(qO, .inr (0, [.ref qT, .ref qR, .ref qP, .ref qL, .ref qF, .int done, .int brd, .int tup, .int tdn, .ref qOa, .int askd])), (qOa, .inl (cT 0, 149, .inl answ)), (qT, .inr (1, [.ref qTs, .int tlen, .int tpl])), (qTs, .inl (cT 2, 300, .inl tsg)), (qR, .inr (2, [.ref qRs, .int rlen, .int rsz])), (qRs, .inl (cT 2, 300, .inl rsg)), (qP, .inr (3, [.ref qPc, .ref qPl, .ref qPv, .int psz])), (qPc, .inl (cT 0, 12, .inl pcd)), (qPl, .inl (cT 0, 12, .inl pld)), (qPv, .inl (cT 1, 12, .inr (.inl pct))), (qL, .inr (4, [.ref qLj, .int lpr, .int (bI lful)])), (qLj, .inl (cT 0, 10, .inl ljn)), (qF, .inr (5, [.ref qFk, .ref qFf, .ref qFl, .int fsz])), (qFk, .inl (cT 0, 20, .inl fkd)), (qFf, .inl (cT 0, 20, .inl ffr)), (qFl, .inl (cT 0, 20, .inl fto))]) (w2 := [(qO, .inr (0, [.ref qT, .ref qR, .ref qP, .ref qL, .ref qF, .int done, .int brd, .int tup, .int tdn, .ref qOa, .int askd])), (qOa, .inl (cT 0, 149, .inl answ)), (qT, .inr (1, [.ref qTs, .int tlen, .int tpl])), (qTs, .inl (cT 2, 300, .inl tsg)), (qR, .inr (2, [.ref qRs, .int rlen, .int rsz])), (qRs, .inl (cT 2, 300, .inl rsg)), (qP, .inr (3, [.ref qPc, .ref qPl, .ref qPv, .int psz])), (qPc, .inl (cT 0, 12, .inl pcd)), (qPl, .inl (cT 0, 12, .inl pld)), (qPv, .inl (cT 1, 12, .inr (.inl pct))), (qL, .inr (4, [.ref qLj, .int lpr, .int (bI lful)])), (qLj, .inl (cT 0, 10, .inl ljn)), (qF, .inr (5, [.ref qFk, .ref qFf, .ref qFl, .int fsz])), (qFk, .inl (cT 0, 20, .inl fkd)), (qFf, .inl (cT 0, 20, .inl ffr)), (qFl, .inl (cT 0, 20, .inl fto))]) S hE (c_Or_isCents l D cT p2 hc_16) gw_25f3dde8 rfl rfl ⟨Nat.le_of_ble_eq_true rfl, Nat.le_of_ble_eq_true rfl⟩ rfl hl.1 rfl (Nat.le_of_ble_eq_true rfl) d_Or_good_16 ⟨Nat.zero_le _, Nat.zero_le _⟩ hP hD hS hA [] [0, 1, 2, 3, 4, 5, 6, 7, 8, 9, 10, 11, 12, 13, 14, 15] [0, 1, 2, 3, 4, 5, 6, 7, 8, 9, 10, 11, 12, 13, 14, 15] rfl rfl (by decide) (by decide) rfl (by decide) (by decide) (fun H locs hP hD hS => ?_)
      refine lv_if_eq (tgt := 30) hx hb d_Or_good_19 (by decide) (fun c_19 => ?_) (fun c_19 => ?_)
      · have hM := itT hM c_19
        exact absurd hM (by simp)
      · have hM := itF hM c_19
        refine lv_iload hx hb d_Or_good_22 (lv_at hl 3 rfl) ?_
        obtain ⟨r_24, hc_24, hM⟩ := bd1T hM
        refine ca_S (As := [.int p3]) (rest := []) (wr := [(qO, .inr (0, [.ref qT, .ref qR, .ref qP, .ref qL, .ref qF, .int done, .int brd, .int tup, .int tdn, .ref qOa, .int askd])), (qOa, .inl (cT 0, 149, .inl answ)), (qT, .inr (1, [.ref qTs, .int tlen, .int tpl])), (qTs, .inl (cT 2, 300, .inl tsg)), (qR, .inr (2, [.ref qRs, .int rlen, .int rsz])), (qRs, .inl (cT 2, 300, .inl rsg)), (qP, .inr (3, [.ref qPc, .ref qPl, .ref qPv, .int psz])), (qPc, .inl (cT 0, 12, .inl pcd)), (qPl, .inl (cT 0, 12, .inl pld)), (qPv, .inl (cT 1, 12, .inr (.inl pct))), (qL, .inr (4, [.ref qLj, .int lpr, .int (bI lful)])), (qLj, .inl (cT 0, 10, .inl ljn)), (qF, .inr (5, [.ref qFk, .ref qFf, .ref qFl, .int fsz])), (qFk, .inl (cT 0, 20, .inl fkd)), (qFf, .inl (cT 0, 20, .inl ffr)), (qFl, .inl (cT 0, 20, .inl fto))]) (w2 := [(qO, .inr (0, [.ref qT, .ref qR, .ref qP, .ref qL, .ref qF, .int done, .int brd, .int tup, .int tdn, .ref qOa, .int askd])), (qOa, .inl (cT 0, 149, .inl answ)), (qT, .inr (1, [.ref qTs, .int tlen, .int tpl])), (qTs, .inl (cT 2, 300, .inl tsg)), (qR, .inr (2, [.ref qRs, .int rlen, .int rsz])), (qRs, .inl (cT 2, 300, .inl rsg)), (qP, .inr (3, [.ref qPc, .ref qPl, .ref qPv, .int psz])), (qPc, .inl (cT 0, 12, .inl pcd)), (qPl, .inl (cT 0, 12, .inl pld)), (qPv, .inl (cT 1, 12, .inr (.inl pct))), (qL, .inr (4, [.ref qLj, .int lpr, .int (bI lful)])), (qLj, .inl (cT 0, 10, .inl ljn)), (qF, .inr (5, [.ref qFk, .ref qFf, .ref qFl, .int fsz])), (qFk, .inl (cT 0, 20, .inl fkd)), (qFf, .inl (cT 0, 20, .inl ffr)), (qFl, .inl (cT 0, 20, .inl fto))]) S hE (c_Or_isDay l D cT p3 hc_24) gw_11477108 rfl rfl ⟨Nat.le_of_ble_eq_true rfl, Nat.le_of_ble_eq_true rfl⟩ rfl hl.1 rfl (Nat.le_of_ble_eq_true rfl) d_Or_good_24 ⟨Nat.zero_le _, Nat.zero_le _⟩ hP hD hS hA [] [0, 1, 2, 3, 4, 5, 6, 7, 8, 9, 10, 11, 12, 13, 14, 15] [0, 1, 2, 3, 4, 5, 6, 7, 8, 9, 10, 11, 12, 13, 14, 15] rfl rfl (by decide) (by decide) rfl (by decide) (by decide) (fun H locs hP hD hS => ?_)
        refine lv_if_ne (tgt := 40) hx hb d_Or_good_27 (by decide) (fun c_27 => ?_) (fun c_27 => ?_)
        · have hM := itF hM c_27
          refine lv_aload_n hx hb d_Or_good_40 rfl (lv_at hl 0 rfl) ?_
          refine va_get (D := D) (ci := 0) (v := .ref qF) (C := R_Or) (T := F_Or) (N := 11) hx hb hts i_Or hown hK hP 0 rfl rfl 4 (by decide) (hts _ iw_653e2ba4) (fun _ h9 => h9) rfl d_Or_good_41 ?_
          refine lv_iload_n hx hb d_Or_good_44 rfl (lv_at hl 1 rfl) ?_
          refine lv_lload_n hx hb d_Or_good_45 rfl (lv_at hl 2 rfl) ?_
          refine lv_iload hx hb d_Or_good_46 (lv_at hl 3 rfl) ?_
          obtain ⟨r_48, hc_48, hM⟩ := bd1T hM
          refine ca_V (As := [.int p1, .long p2, .int p3]) (rest := []) (wr := [(qO, .inr (0, [.ref qT, .ref qR, .ref qP, .ref qL, .ref qF, .int done, .int brd, .int tup, .int tdn, .ref qOa, .int askd])), (qOa, .inl (cT 0, 149, .inl answ)), (qT, .inr (1, [.ref qTs, .int tlen, .int tpl])), (qTs, .inl (cT 2, 300, .inl tsg)), (qR, .inr (2, [.ref qRs, .int rlen, .int rsz])), (qRs, .inl (cT 2, 300, .inl rsg)), (qP, .inr (3, [.ref qPc, .ref qPl, .ref qPv, .int psz])), (qPc, .inl (cT 0, 12, .inl pcd)), (qPl, .inl (cT 0, 12, .inl pld)), (qPv, .inl (cT 1, 12, .inr (.inl pct))), (qL, .inr (4, [.ref qLj, .int lpr, .int (bI lful)])), (qLj, .inl (cT 0, 10, .inl ljn))]) (w2 := [(qO, .inr (0, [.ref qT, .ref qR, .ref qP, .ref qL, .ref qF, .int done, .int brd, .int tup, .int tdn, .ref qOa, .int askd])), (qOa, .inl (cT 0, 149, .inl answ)), (qT, .inr (1, [.ref qTs, .int tlen, .int tpl])), (qTs, .inl (cT 2, 300, .inl tsg)), (qR, .inr (2, [.ref qRs, .int rlen, .int rsz])), (qRs, .inl (cT 2, 300, .inl rsg)), (qP, .inr (3, [.ref qPc, .ref qPl, .ref qPv, .int psz])), (qPc, .inl (cT 0, 12, .inl pcd)), (qPl, .inl (cT 0, 12, .inl pld)), (qPv, .inl (cT 1, 12, .inr (.inl pct))), (qL, .inr (4, [.ref qLj, .int lpr, .int (bI lful)])), (qLj, .inl (cT 0, 10, .inl ljn)), (qF, .inr (5, [.ref qFk, .ref qFf, .ref qFl, .int fsz])), (qFk, .inl (cT 0, 20, .inl fkd)), (qFf, .inl (cT 0, 20, .inl ffr)), (qFl, .inl (cT 0, 20, .inl fto))]) S hE (c_Proofs_isGood l D cT qF qFk qFf qFl fsz fkd ffr fto p1 p2 p3 hc_48) gw_a3c58452 rfl rfl ⟨Nat.le_of_ble_eq_true rfl, Nat.le_of_ble_eq_true rfl⟩ (ci := 5) rfl rfl (k0 := 0) rfl rfl hl.1 rfl (Nat.le_of_ble_eq_true rfl) d_Or_good_48 ⟨Nat.zero_le _, Nat.zero_le _⟩ hP hD hS hA [12, 13, 14, 15] [0, 1, 2, 3, 4, 5, 6, 7, 8, 9, 10, 11] [0, 1, 2, 3, 4, 5, 6, 7, 8, 9, 10, 11, 12, 13, 14, 15] rfl rfl (by decide) (by decide) rfl (by decide) (by decide) (fun H locs hP hD hS => ?_)
          have hM := inrT hM
          have eo0 := Option.some.inj hM
          subst eo0
          exact rt_z S hr hlocks hP hD hS d_Or_good_51
        · have hM := itT hM c_27
          exact absurd hM (by simp)
def rm_Or_own : Room := { frames := 2, cells := 0, slots := 0, locals := 44 }
set_option maxHeartbeats 4000000 in
set_option maxRecDepth 100000 in
theorem c_Or_own (l : Launch) (D : va_G) (cT : Nat → ClassId) (qO : Nat) (qOa : Nat) (qT : Nat) (qTs : Nat) (qR : Nat) (qRs : Nat) (qP : Nat) (qPc : Nat) (qPl : Nat) (qPv : Nat) (qL : Nat) (qLj : Nat) (qF : Nat) (qFk : Nat) (qFf : Nat) (qFl : Nat) (done : Int32) (brd : Int32) (tup : Int32) (tdn : Int32) (askd : Int32) (answ : Nat → Int32) (tlen : Int32) (tpl : Int32) (tsg : Nat → Int32) (rlen : Int32) (rsz : Int32) (rsg : Nat → Int32) (psz : Int32) (pcd : Nat → Int32) (pld : Nat → Int32) (pct : Nat → Int64) (lpr : Int32) (lful : Bool) (ljn : Nat → Int32) (fsz : Int32) (fkd : Nat → Int32) (ffr : Nat → Int32) (fto : Nat → Int32) (p1 : Int32) {rr : Bool} (hM : m_Or_own p1 lful ljn = some (.inr rr)) : Ct l y_Or_own (WS y_Or_own b_Or_own 2 (some .boolean)) rm_Or_own D cT [.ref qO, .int p1] [(qO, .inr (0, [.ref qT, .ref qR, .ref qP, .ref qL, .ref qF, .int done, .int brd, .int tup, .int tdn, .ref qOa, .int askd])), (qOa, .inl (cT 0, 149, .inl answ)), (qT, .inr (1, [.ref qTs, .int tlen, .int tpl])), (qTs, .inl (cT 2, 300, .inl tsg)), (qR, .inr (2, [.ref qRs, .int rlen, .int rsz])), (qRs, .inl (cT 2, 300, .inl rsg)), (qP, .inr (3, [.ref qPc, .ref qPl, .ref qPv, .int psz])), (qPc, .inl (cT 0, 12, .inl pcd)), (qPl, .inl (cT 0, 12, .inl pld)), (qPv, .inl (cT 1, 12, .inr (.inl pct))), (qL, .inr (4, [.ref qLj, .int lpr, .int (bI lful)])), (qLj, .inl (cT 0, 10, .inl ljn)), (qF, .inr (5, [.ref qFk, .ref qFf, .ref qFl, .int fsz])), (qFk, .inl (cT 0, 20, .inl fkd)), (qFf, .inl (cT 0, 20, .inl ffr)), (qFl, .inl (cT 0, 20, .inl fto))] (some (.int (bI rr))) [(qO, .inr (0, [.ref qT, .ref qR, .ref qP, .ref qL, .ref qF, .int done, .int brd, .int tup, .int tdn, .ref qOa, .int askd])), (qOa, .inl (cT 0, 149, .inl answ)), (qT, .inr (1, [.ref qTs, .int tlen, .int tpl])), (qTs, .inl (cT 2, 300, .inl tsg)), (qR, .inr (2, [.ref qRs, .int rlen, .int rsz])), (qRs, .inl (cT 2, 300, .inl rsg)), (qP, .inr (3, [.ref qPc, .ref qPl, .ref qPv, .int psz])), (qPc, .inl (cT 0, 12, .inl pcd)), (qPl, .inl (cT 0, 12, .inl pld)), (qPv, .inl (cT 1, 12, .inr (.inl pct))), (qL, .inr (4, [.ref qLj, .int lpr, .int (bI lful)])), (qLj, .inl (cT 0, 10, .inl ljn)), (qF, .inr (5, [.ref qFk, .ref qFf, .ref qFl, .int fsz])), (qFk, .inl (cT 0, 20, .inl fkd)), (qFf, .inl (cT 0, 20, .inl ffr)), (qFl, .inl (cT 0, 20, .inl fto))] 0 0 := by
  intro sz
  refine Met.ofW (cc := b_Or_own) (maxL := 2) (ret := (some .boolean)) (by decide) rfl ?_
  intro p e s m args below meth c s₁ B hml hv
  obtain ⟨rfl, hsz, hP, hE, hD0⟩ := hv
  have hx := B.exec
  have hb := B.bytes
  have hr := B.returns
  have hts : ∀ w ∈ TB, w.before _ s = true := fun w h => atoms_spec (ws := WS y_Or_own b_Or_own 2 (some .boolean)) B.pre w (List.mem_cons_of_mem _ h)
  have hown : s.vm.findClass R_Or = some m.cls := findClass_of_methodNamed B.named
  have hlocks := B.notSynchronized
  have hK := hE.1
  have hN := hE.2
  subst hsz
  have hD := hD0.self (sz := s.heap.size)
  generalize hAe : va_A [(qO, .inr (0, [.ref qT, .ref qR, .ref qP, .ref qL, .ref qF, .int done, .int brd, .int tup, .int tdn, .ref qOa, .int askd])), (qOa, .inl (cT 0, 149, .inl answ)), (qT, .inr (1, [.ref qTs, .int tlen, .int tpl])), (qTs, .inl (cT 2, 300, .inl tsg)), (qR, .inr (2, [.ref qRs, .int rlen, .int rsz])), (qRs, .inl (cT 2, 300, .inl rsg)), (qP, .inr (3, [.ref qPc, .ref qPl, .ref qPv, .int psz])), (qPc, .inl (cT 0, 12, .inl pcd)), (qPl, .inl (cT 0, 12, .inl pld)), (qPv, .inl (cT 1, 12, .inr (.inl pct))), (qL, .inr (4, [.ref qLj, .int lpr, .int (bI lful)])), (qLj, .inl (cT 0, 10, .inl ljn)), (qF, .inr (5, [.ref qFk, .ref qFf, .ref qFl, .int fsz])), (qFk, .inl (cT 0, 20, .inl fkd)), (qFf, .inl (cT 0, 20, .inl ffr)), (qFl, .inl (cT 0, 20, .inl fto))] s.heap.size = A at hD ⊢
  have hA : ∀ q : Nat, s.heap.size ≤ q → A q := fun q h => by rw [← hAe]; exact Or.inr h
  have hS : va_S A s.heap s.heap [] := va_S.rf
  have hl := lv_entry ([.ref qO, .int p1]) (n := 2) (Nat.le_of_ble_eq_true rfl)
  rw [lg_entry_eq]
  generalize (lg_sl ([.ref qO, .int p1]) ++ List.replicate (2 - (lg_sl ([.ref qO, .int p1])).length) Slot.unset).toArray = ls at hl ⊢
  have hl : lv_has ls 2 [(0, .ref qO), (1, .int p1)] := hl
  have S : CallFix p m c b_Or_own 2 s _ TB R_Or := ⟨hx, hb, hml, hown, hts⟩
  unfold m_Or_own at hM
  refine lv_iload_n hx hb d_Or_own_0 rfl (lv_at hl 1 rfl) ?_
  obtain ⟨r_1, hc_1, hM⟩ := bd1T hM
  refine ca_S (As := [.int p1]) (rest := []) (wr := [(qO, .inr (0, [.ref qT, .ref qR, .ref qP, .ref qL, .ref qF, .int done, .int brd, .int tup, .int tdn, .ref qOa, .int askd])), (qOa, .inl (cT 0, 149, .inl answ)), (qT, .inr (1, [.ref qTs, .int tlen, .int tpl])), (qTs, .inl (cT 2, 300, .inl tsg)), (qR, .inr (2, [.ref qRs, .int rlen, .int rsz])), (qRs, .inl (cT 2, 300, .inl rsg)), (qP, .inr (3, [.ref qPc, .ref qPl, .ref qPv, .int psz])), (qPc, .inl (cT 0, 12, .inl pcd)), (qPl, .inl (cT 0, 12, .inl pld)), (qPv, .inl (cT 1, 12, .inr (.inl pct))), (qL, .inr (4, [.ref qLj, .int lpr, .int (bI lful)])), (qLj, .inl (cT 0, 10, .inl ljn)), (qF, .inr (5, [.ref qFk, .ref qFf, .ref qFl, .int fsz])), (qFk, .inl (cT 0, 20, .inl fkd)), (qFf, .inl (cT 0, 20, .inl ffr)), (qFl, .inl (cT 0, 20, .inl fto))]) (w2 := [(qO, .inr (0, [.ref qT, .ref qR, .ref qP, .ref qL, .ref qF, .int done, .int brd, .int tup, .int tdn, .ref qOa, .int askd])), (qOa, .inl (cT 0, 149, .inl answ)), (qT, .inr (1, [.ref qTs, .int tlen, .int tpl])), (qTs, .inl (cT 2, 300, .inl tsg)), (qR, .inr (2, [.ref qRs, .int rlen, .int rsz])), (qRs, .inl (cT 2, 300, .inl rsg)), (qP, .inr (3, [.ref qPc, .ref qPl, .ref qPv, .int psz])), (qPc, .inl (cT 0, 12, .inl pcd)), (qPl, .inl (cT 0, 12, .inl pld)), (qPv, .inl (cT 1, 12, .inr (.inl pct))), (qL, .inr (4, [.ref qLj, .int lpr, .int (bI lful)])), (qLj, .inl (cT 0, 10, .inl ljn)), (qF, .inr (5, [.ref qFk, .ref qFf, .ref qFl, .int fsz])), (qFk, .inl (cT 0, 20, .inl fkd)), (qFf, .inl (cT 0, 20, .inl ffr)), (qFl, .inl (cT 0, 20, .inl fto))]) S hE (c_Or_isLand l D cT p1 hc_1) gw_1f2c9aaf rfl rfl ⟨Nat.le_of_ble_eq_true rfl, Nat.le_of_ble_eq_true rfl⟩ rfl hl.1 rfl (Nat.le_of_ble_eq_true rfl) d_Or_own_1 ⟨Nat.zero_le _, Nat.zero_le _⟩ hP hD hS hA [] [0, 1, 2, 3, 4, 5, 6, 7, 8, 9, 10, 11, 12, 13, 14, 15] [0, 1, 2, 3, 4, 5, 6, 7, 8, 9, 10, 11, 12, 13, 14, 15] rfl rfl (by decide) (by decide) rfl (by decide) (by decide) (fun H locs hP hD hS => ?_)
  refine lv_if_ne (tgt := 17) hx hb d_Or_own_4 (by decide) (fun c_4 => ?_) (fun c_4 => ?_)
  · have hM := itF hM c_4
    refine lv_aload_n hx hb d_Or_own_17 rfl (lv_at hl 0 rfl) ?_
    refine va_get (D := D) (ci := 0) (v := .ref qL) (C := R_Or) (T := F_Or) (N := 11) hx hb hts i_Or hown hK hP 0 rfl rfl 3 (by decide) (hts _ iw_d5228362) (fun _ h9 => h9) rfl d_Or_own_18 ?_
    obtain ⟨r_21, hc_21, hM⟩ := bd1T hM
    refine ca_V (As := []) (rest := []) (wr := [(qO, .inr (0, [.ref qT, .ref qR, .ref qP, .ref qL, .ref qF, .int done, .int brd, .int tup, .int tdn, .ref qOa, .int askd])), (qOa, .inl (cT 0, 149, .inl answ)), (qT, .inr (1, [.ref qTs, .int tlen, .int tpl])), (qTs, .inl (cT 2, 300, .inl tsg)), (qR, .inr (2, [.ref qRs, .int rlen, .int rsz])), (qRs, .inl (cT 2, 300, .inl rsg)), (qP, .inr (3, [.ref qPc, .ref qPl, .ref qPv, .int psz])), (qPc, .inl (cT 0, 12, .inl pcd)), (qPl, .inl (cT 0, 12, .inl pld)), (qPv, .inl (cT 1, 12, .inr (.inl pct))), (qF, .inr (5, [.ref qFk, .ref qFf, .ref qFl, .int fsz])), (qFk, .inl (cT 0, 20, .inl fkd)), (qFf, .inl (cT 0, 20, .inl ffr)), (qFl, .inl (cT 0, 20, .inl fto))]) (w2 := [(qO, .inr (0, [.ref qT, .ref qR, .ref qP, .ref qL, .ref qF, .int done, .int brd, .int tup, .int tdn, .ref qOa, .int askd])), (qOa, .inl (cT 0, 149, .inl answ)), (qT, .inr (1, [.ref qTs, .int tlen, .int tpl])), (qTs, .inl (cT 2, 300, .inl tsg)), (qR, .inr (2, [.ref qRs, .int rlen, .int rsz])), (qRs, .inl (cT 2, 300, .inl rsg)), (qP, .inr (3, [.ref qPc, .ref qPl, .ref qPv, .int psz])), (qPc, .inl (cT 0, 12, .inl pcd)), (qPl, .inl (cT 0, 12, .inl pld)), (qPv, .inl (cT 1, 12, .inr (.inl pct))), (qL, .inr (4, [.ref qLj, .int lpr, .int (bI lful)])), (qLj, .inl (cT 0, 10, .inl ljn)), (qF, .inr (5, [.ref qFk, .ref qFf, .ref qFl, .int fsz])), (qFk, .inl (cT 0, 20, .inl fkd)), (qFf, .inl (cT 0, 20, .inl ffr)), (qFl, .inl (cT 0, 20, .inl fto))]) S hE (c_Lands_ownLands l D cT qL qLj lpr lful ljn hc_21) gw_7c92819f rfl rfl ⟨Nat.le_of_ble_eq_true rfl, Nat.le_of_ble_eq_true rfl⟩ (ci := 4) rfl rfl (k0 := 0) rfl rfl hl.1 rfl (Nat.le_of_ble_eq_true rfl) d_Or_own_21 ⟨Nat.zero_le _, Nat.zero_le _⟩ hP hD hS hA [10, 11] [0, 1, 2, 3, 4, 5, 6, 7, 8, 9, 12, 13, 14, 15] [0, 1, 2, 3, 4, 5, 6, 7, 8, 9, 14, 15, 10, 11, 12, 13] rfl rfl (by decide) (by decide) rfl (by decide) (by decide) (fun H locs hP hD hS => ?_)
    refine lv_iload_n hx hb d_Or_own_24 rfl (lv_at hl 1 rfl) ?_
    obtain ⟨r_25, hc_25, hM⟩ := bd1T hM
    refine ca_S (As := [.int r_21, .int p1]) (rest := []) (wr := [(qO, .inr (0, [.ref qT, .ref qR, .ref qP, .ref qL, .ref qF, .int done, .int brd, .int tup, .int tdn, .ref qOa, .int askd])), (qOa, .inl (cT 0, 149, .inl answ)), (qT, .inr (1, [.ref qTs, .int tlen, .int tpl])), (qTs, .inl (cT 2, 300, .inl tsg)), (qR, .inr (2, [.ref qRs, .int rlen, .int rsz])), (qRs, .inl (cT 2, 300, .inl rsg)), (qP, .inr (3, [.ref qPc, .ref qPl, .ref qPv, .int psz])), (qPc, .inl (cT 0, 12, .inl pcd)), (qPl, .inl (cT 0, 12, .inl pld)), (qPv, .inl (cT 1, 12, .inr (.inl pct))), (qL, .inr (4, [.ref qLj, .int lpr, .int (bI lful)])), (qLj, .inl (cT 0, 10, .inl ljn)), (qF, .inr (5, [.ref qFk, .ref qFf, .ref qFl, .int fsz])), (qFk, .inl (cT 0, 20, .inl fkd)), (qFf, .inl (cT 0, 20, .inl ffr)), (qFl, .inl (cT 0, 20, .inl fto))]) (w2 := [(qO, .inr (0, [.ref qT, .ref qR, .ref qP, .ref qL, .ref qF, .int done, .int brd, .int tup, .int tdn, .ref qOa, .int askd])), (qOa, .inl (cT 0, 149, .inl answ)), (qT, .inr (1, [.ref qTs, .int tlen, .int tpl])), (qTs, .inl (cT 2, 300, .inl tsg)), (qR, .inr (2, [.ref qRs, .int rlen, .int rsz])), (qRs, .inl (cT 2, 300, .inl rsg)), (qP, .inr (3, [.ref qPc, .ref qPl, .ref qPv, .int psz])), (qPc, .inl (cT 0, 12, .inl pcd)), (qPl, .inl (cT 0, 12, .inl pld)), (qPv, .inl (cT 1, 12, .inr (.inl pct))), (qL, .inr (4, [.ref qLj, .int lpr, .int (bI lful)])), (qLj, .inl (cT 0, 10, .inl ljn)), (qF, .inr (5, [.ref qFk, .ref qFf, .ref qFl, .int fsz])), (qFk, .inl (cT 0, 20, .inl fkd)), (qFf, .inl (cT 0, 20, .inl ffr)), (qFl, .inl (cT 0, 20, .inl fto))]) S hE (c_Or_hasBit l D cT r_21 p1 hc_25) gw_b05a7136 rfl rfl ⟨Nat.le_of_ble_eq_true rfl, Nat.le_of_ble_eq_true rfl⟩ rfl hl.1 rfl (Nat.le_of_ble_eq_true rfl) d_Or_own_25 ⟨Nat.zero_le _, Nat.zero_le _⟩ hP hD hS hA [] [0, 1, 2, 3, 4, 5, 6, 7, 8, 9, 10, 11, 12, 13, 14, 15] [0, 1, 2, 3, 4, 5, 6, 7, 8, 9, 10, 11, 12, 13, 14, 15] rfl rfl (by decide) (by decide) rfl (by decide) (by decide) (fun H locs hP hD hS => ?_)
    have hM := inrT hM
    have eo0 := Option.some.inj hM
    subst eo0
    exact rt_z S hr hlocks hP hD hS d_Or_own_28
  · have hM := itT hM c_4
    exact absurd hM (by simp)
