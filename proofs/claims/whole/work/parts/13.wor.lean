def rm_Or_isShareWithin : Room := { frames := 2, cells := 0, slots := 0, locals := 45 }
set_option maxHeartbeats 4000000 in
set_option maxRecDepth 100000 in
theorem c_Or_isShareWithin (l : Launch) (D : va_G) (cT : Nat → ClassId) (qO : Nat) (qOa : Nat) (qT : Nat) (qTs : Nat) (qR : Nat) (qRs : Nat) (qP : Nat) (qPc : Nat) (qPl : Nat) (qPv : Nat) (qL : Nat) (qLj : Nat) (qF : Nat) (qFk : Nat) (qFf : Nat) (qFl : Nat) (done : Int32) (brd : Int32) (tup : Int32) (tdn : Int32) (askd : Int32) (answ : Nat → Int32) (tlen : Int32) (tpl : Int32) (tsg : Nat → Int32) (rlen : Int32) (rsz : Int32) (rsg : Nat → Int32) (psz : Int32) (pcd : Nat → Int32) (pld : Nat → Int32) (pct : Nat → Int64) (lpr : Int32) (lful : Bool) (ljn : Nat → Int32) (fsz : Int32) (fkd : Nat → Int32) (ffr : Nat → Int32) (fto : Nat → Int32) (p1 : Int32) (p2 : Int64) {rr : Bool} (hM : m_Or_isShareWithin p1 p2 psz pld pct lful ljn = some rr) : Ct l y_Or_isShareWithin (WS y_Or_isShareWithin b_Or_isShareWithin 6 (some .boolean)) rm_Or_isShareWithin D cT [.ref qO, .int p1, .long p2] [(qO, .inr (0, [.ref qT, .ref qR, .ref qP, .ref qL, .ref qF, .int done, .int brd, .int tup, .int tdn, .ref qOa, .int askd])), (qOa, .inl (cT 0, 149, .inl answ)), (qT, .inr (1, [.ref qTs, .int tlen, .int tpl])), (qTs, .inl (cT 2, 300, .inl tsg)), (qR, .inr (2, [.ref qRs, .int rlen, .int rsz])), (qRs, .inl (cT 2, 300, .inl rsg)), (qP, .inr (3, [.ref qPc, .ref qPl, .ref qPv, .int psz])), (qPc, .inl (cT 0, 12, .inl pcd)), (qPl, .inl (cT 0, 12, .inl pld)), (qPv, .inl (cT 1, 12, .inr (.inl pct))), (qL, .inr (4, [.ref qLj, .int lpr, .int (bI lful)])), (qLj, .inl (cT 0, 10, .inl ljn)), (qF, .inr (5, [.ref qFk, .ref qFf, .ref qFl, .int fsz])), (qFk, .inl (cT 0, 20, .inl fkd)), (qFf, .inl (cT 0, 20, .inl ffr)), (qFl, .inl (cT 0, 20, .inl fto))] (some (.int (bI rr))) [(qO, .inr (0, [.ref qT, .ref qR, .ref qP, .ref qL, .ref qF, .int done, .int brd, .int tup, .int tdn, .ref qOa, .int askd])), (qOa, .inl (cT 0, 149, .inl answ)), (qT, .inr (1, [.ref qTs, .int tlen, .int tpl])), (qTs, .inl (cT 2, 300, .inl tsg)), (qR, .inr (2, [.ref qRs, .int rlen, .int rsz])), (qRs, .inl (cT 2, 300, .inl rsg)), (qP, .inr (3, [.ref qPc, .ref qPl, .ref qPv, .int psz])), (qPc, .inl (cT 0, 12, .inl pcd)), (qPl, .inl (cT 0, 12, .inl pld)), (qPv, .inl (cT 1, 12, .inr (.inl pct))), (qL, .inr (4, [.ref qLj, .int lpr, .int (bI lful)])), (qLj, .inl (cT 0, 10, .inl ljn)), (qF, .inr (5, [.ref qFk, .ref qFf, .ref qFl, .int fsz])), (qFk, .inl (cT 0, 20, .inl fkd)), (qFf, .inl (cT 0, 20, .inl ffr)), (qFl, .inl (cT 0, 20, .inl fto))] 0 0 := by
  intro sz
  refine Met.ofW (cc := b_Or_isShareWithin) (maxL := 6) (ret := (some .boolean)) (by decide) rfl ?_
  intro p e s m args below meth c s₁ B hml hv
  obtain ⟨rfl, hsz, hP, hE, hD0⟩ := hv
  have hx := B.exec
  have hb := B.bytes
  have hr := B.returns
  have hts : ∀ w ∈ TB, w.before _ s = true := fun w h => atoms_spec (ws := WS y_Or_isShareWithin b_Or_isShareWithin 6 (some .boolean)) B.pre w (List.mem_cons_of_mem _ h)
  have hown : s.vm.findClass R_Or = some m.cls := findClass_of_methodNamed B.named
  have hlocks := B.notSynchronized
  have hK := hE.1
  have hN := hE.2
  subst hsz
  have hD := hD0.self (sz := s.heap.size)
  generalize hAe : va_A [(qO, .inr (0, [.ref qT, .ref qR, .ref qP, .ref qL, .ref qF, .int done, .int brd, .int tup, .int tdn, .ref qOa, .int askd])), (qOa, .inl (cT 0, 149, .inl answ)), (qT, .inr (1, [.ref qTs, .int tlen, .int tpl])), (qTs, .inl (cT 2, 300, .inl tsg)), (qR, .inr (2, [.ref qRs, .int rlen, .int rsz])), (qRs, .inl (cT 2, 300, .inl rsg)), (qP, .inr (3, [.ref qPc, .ref qPl, .ref qPv, .int psz])), (qPc, .inl (cT 0, 12, .inl pcd)), (qPl, .inl (cT 0, 12, .inl pld)), (qPv, .inl (cT 1, 12, .inr (.inl pct))), (qL, .inr (4, [.ref qLj, .int lpr, .int (bI lful)])), (qLj, .inl (cT 0, 10, .inl ljn)), (qF, .inr (5, [.ref qFk, .ref qFf, .ref qFl, .int fsz])), (qFk, .inl (cT 0, 20, .inl fkd)), (qFf, .inl (cT 0, 20, .inl ffr)), (qFl, .inl (cT 0, 20, .inl fto))] s.heap.size = A at hD ⊢
  have hA : ∀ q : Nat, s.heap.size ≤ q → A q := fun q h => by rw [← hAe]; exact Or.inr h
  have hS : va_S A s.heap s.heap [] := va_S.rf
  have hl := lv_entry ([.ref qO, .int p1, .long p2]) (n := 6) (Nat.le_of_ble_eq_true rfl)
  rw [lg_entry_eq]
  generalize (lg_sl ([.ref qO, .int p1, .long p2]) ++ List.replicate (6 - (lg_sl ([.ref qO, .int p1, .long p2])).length) Slot.unset).toArray = ls at hl ⊢
  have hl : lv_has ls 6 [(0, .ref qO), (1, .int p1), (2, .long p2)] := hl
  have S : CallFix p m c b_Or_isShareWithin 6 s _ TB R_Or := ⟨hx, hb, hml, hown, hts⟩
  unfold m_Or_isShareWithin at hM
  refine lv_aload_n hx hb d_Or_isShareWithin_0 rfl (lv_at hl 0 rfl) ?_
  refine va_get (D := D) (ci := 0) (v := .ref qP) (C := R_Or) (T := F_Or) (N := 11) hx hb hts i_Or hown hK hP 0 rfl rfl 2 (by decide) (hts _ iw_4820ce3a) (fun _ h9 => h9) rfl d_Or_isShareWithin_1 ?_
  refine lv_aload_n hx hb d_Or_isShareWithin_4 rfl (lv_at hl 0 rfl) ?_
  refine va_get (D := D) (ci := 0) (v := .ref qL) (C := R_Or) (T := F_Or) (N := 11) hx hb hts i_Or hown hK hP 0 rfl rfl 3 (by decide) (hts _ iw_d5228362) (fun _ h9 => h9) rfl d_Or_isShareWithin_5 ?_
  obtain ⟨r_8, hc_8, hM⟩ := bd1T hM
  refine ca_V (As := []) (rest := [.ref qP]) (wr := [(qO, .inr (0, [.ref qT, .ref qR, .ref qP, .ref qL, .ref qF, .int done, .int brd, .int tup, .int tdn, .ref qOa, .int askd])), (qOa, .inl (cT 0, 149, .inl answ)), (qT, .inr (1, [.ref qTs, .int tlen, .int tpl])), (qTs, .inl (cT 2, 300, .inl tsg)), (qR, .inr (2, [.ref qRs, .int rlen, .int rsz])), (qRs, .inl (cT 2, 300, .inl rsg)), (qP, .inr (3, [.ref qPc, .ref qPl, .ref qPv, .int psz])), (qPc, .inl (cT 0, 12, .inl pcd)), (qPl, .inl (cT 0, 12, .inl pld)), (qPv, .inl (cT 1, 12, .inr (.inl pct))), (qF, .inr (5, [.ref qFk, .ref qFf, .ref qFl, .int fsz])), (qFk, .inl (cT 0, 20, .inl fkd)), (qFf, .inl (cT 0, 20, .inl ffr)), (qFl, .inl (cT 0, 20, .inl fto))]) (w2 := [(qO, .inr (0, [.ref qT, .ref qR, .ref qP, .ref qL, .ref qF, .int done, .int brd, .int tup, .int tdn, .ref qOa, .int askd])), (qOa, .inl (cT 0, 149, .inl answ)), (qT, .inr (1, [.ref qTs, .int tlen, .int tpl])), (qTs, .inl (cT 2, 300, .inl tsg)), (qR, .inr (2, [.ref qRs, .int rlen, .int rsz])), (qRs, .inl (cT 2, 300, .inl rsg)), (qP, .inr (3, [.ref qPc, .ref qPl, .ref qPv, .int psz])), (qPc, .inl (cT 0, 12, .inl pcd)), (qPl, .inl (cT 0, 12, .inl pld)), (qPv, .inl (cT 1, 12, .inr (.inl pct))), (qL, .inr (4, [.ref qLj, .int lpr, .int (bI lful)])), (qLj, .inl (cT 0, 10, .inl ljn)), (qF, .inr (5, [.ref qFk, .ref qFf, .ref qFl, .int fsz])), (qFk, .inl (cT 0, 20, .inl fkd)), (qFf, .inl (cT 0, 20, .inl ffr)), (qFl, .inl (cT 0, 20, .inl fto))]) S hE (c_Lands_ownLands l D cT qL qLj lpr lful ljn hc_8) gw_7c92819f rfl rfl ⟨Nat.le_of_ble_eq_true rfl, Nat.le_of_ble_eq_true rfl⟩ (ci := 4) rfl rfl (k0 := 0) rfl rfl hl.1 rfl (Nat.le_of_ble_eq_true rfl) d_Or_isShareWithin_8 ⟨Nat.zero_le _, Nat.zero_le _⟩ hP hD hS hA [10, 11] [0, 1, 2, 3, 4, 5, 6, 7, 8, 9, 12, 13, 14, 15] [0, 1, 2, 3, 4, 5, 6, 7, 8, 9, 14, 15, 10, 11, 12, 13] rfl rfl (by decide) (by decide) rfl (by decide) (by decide) (fun H locs hP hD hS => ?_)
  obtain ⟨r_11, hc_11, hM⟩ := bd1T hM
  refine ca_V (As := [.int r_8]) (rest := []) (wr := [(qO, .inr (0, [.ref qT, .ref qR, .ref qP, .ref qL, .ref qF, .int done, .int brd, .int tup, .int tdn, .ref qOa, .int askd])), (qOa, .inl (cT 0, 149, .inl answ)), (qT, .inr (1, [.ref qTs, .int tlen, .int tpl])), (qTs, .inl (cT 2, 300, .inl tsg)), (qR, .inr (2, [.ref qRs, .int rlen, .int rsz])), (qRs, .inl (cT 2, 300, .inl rsg)), (qL, .inr (4, [.ref qLj, .int lpr, .int (bI lful)])), (qLj, .inl (cT 0, 10, .inl ljn)), (qF, .inr (5, [.ref qFk, .ref qFf, .ref qFl, .int fsz])), (qFk, .inl (cT 0, 20, .inl fkd)), (qFf, .inl (cT 0, 20, .inl ffr)), (qFl, .inl (cT 0, 20, .inl fto))]) (w2 := [(qO, .inr (0, [.ref qT, .ref qR, .ref qP, .ref qL, .ref qF, .int done, .int brd, .int tup, .int tdn, .ref qOa, .int askd])), (qOa, .inl (cT 0, 149, .inl answ)), (qT, .inr (1, [.ref qTs, .int tlen, .int tpl])), (qTs, .inl (cT 2, 300, .inl tsg)), (qR, .inr (2, [.ref qRs, .int rlen, .int rsz])), (qRs, .inl (cT 2, 300, .inl rsg)), (qP, .inr (3, [.ref qPc, .ref qPl, .ref qPv, .int psz])), (qPc, .inl (cT 0, 12, .inl pcd)), (qPl, .inl (cT 0, 12, .inl pld)), (qPv, .inl (cT 1, 12, .inr (.inl pct))), (qL, .inr (4, [.ref qLj, .int lpr, .int (bI lful)])), (qLj, .inl (cT 0, 10, .inl ljn)), (qF, .inr (5, [.ref qFk, .ref qFf, .ref qFl, .int fsz])), (qFk, .inl (cT 0, 20, .inl fkd)), (qFf, .inl (cT 0, 20, .inl ffr)), (qFl, .inl (cT 0, 20, .inl fto))]) S hE (c_Parts_foreignCents l D cT qP qPc qPl qPv psz pcd pld pct r_8 hc_11) gw_3e69858b rfl rfl ⟨Nat.le_of_ble_eq_true rfl, Nat.le_of_ble_eq_true rfl⟩ (ci := 3) rfl rfl (k0 := 0) rfl rfl hl.1 rfl (Nat.le_of_ble_eq_true rfl) d_Or_isShareWithin_11 ⟨Nat.zero_le _, Nat.zero_le _⟩ hP hD hS hA [6, 7, 8, 9] [0, 1, 2, 3, 4, 5, 10, 11, 12, 13, 14, 15] [0, 1, 2, 3, 4, 5, 12, 13, 14, 15, 6, 7, 8, 9, 10, 11] rfl rfl (by decide) (by decide) rfl (by decide) (by decide) (fun H locs hP hD hS => ?_)
  refine lv_lstore (lv' := [(4, .long r_11), (0, .ref qO), (1, .int p1), (2, .long p2)]) hx hb d_Or_isShareWithin_14 hl (by decide) rfl (fun ls hl => ?_)
  refine lv_lload_n hx hb d_Or_isShareWithin_16 rfl (lv_at hl 3 rfl) ?_
  refine lv_lconst (v := 0) hx hb d_Or_isShareWithin_17 (by decide) ?_
  refine W.lcmp hx hb d_Or_isShareWithin_18 ?_
  refine lv_if_le (tgt := 40) hx hb d_Or_isShareWithin_19 (by decide) (fun c_19 => ?_) (fun c_19 => ?_)
  · have hM := itT hM c_19
    refine lv_iconst (v := 0) hx hb d_Or_isShareWithin_40 (by decide) ?_
    have eo0 := Option.some.inj hM
    subst eo0
    exact rt_z S hr hlocks hP hD hS d_Or_isShareWithin_41
  · have hM := itF hM c_19
    refine lv_lload hx hb d_Or_isShareWithin_22 (lv_at hl 0 rfl) ?_
    refine lv_ldc2 (v := 100) hx hb hown (hts _ iw_ac817fff) d_Or_isShareWithin_24 ?_
    refine lv_lmul hx hb d_Or_isShareWithin_27 ?_
    refine lv_iload_n hx hb d_Or_isShareWithin_28 rfl (lv_at hl 2 rfl) ?_
    refine lv_i2l hx hb d_Or_isShareWithin_29 rfl ?_
    refine lv_lload_n hx hb d_Or_isShareWithin_30 rfl (lv_at hl 3 rfl) ?_
    refine lv_lmul hx hb d_Or_isShareWithin_31 ?_
    refine W.lcmp hx hb d_Or_isShareWithin_32 ?_
    refine lv_if_gt (tgt := 40) hx hb d_Or_isShareWithin_33 (by decide) (fun c_33 => ?_) (fun c_33 => ?_)
    · have hM := itT hM c_33
      refine lv_iconst (v := 0) hx hb d_Or_isShareWithin_40 (by decide) ?_
      have eo0 := Option.some.inj hM
      subst eo0
      exact rt_z S hr hlocks hP hD hS d_Or_isShareWithin_41
    · have hM := itF hM c_33
      refine lv_iconst (v := 1) hx hb d_Or_isShareWithin_36 (by decide) ?_
      refine lv_goto (tgt := 41) hx hb d_Or_isShareWithin_37 (by decide) ?_
      have eo0 := Option.some.inj hM
      subst eo0
      exact rt_z S hr hlocks hP hD hS d_Or_isShareWithin_41
def rm_Or_isChanged : Room := { frames := 2, cells := 0, slots := 0, locals := 50 }
set_option maxHeartbeats 4000000 in
set_option maxRecDepth 100000 in
theorem c_Or_isChanged (l : Launch) (D : va_G) (cT : Nat → ClassId) (qO : Nat) (qOa : Nat) (qT : Nat) (qTs : Nat) (qR : Nat) (qRs : Nat) (qP : Nat) (qPc : Nat) (qPl : Nat) (qPv : Nat) (qL : Nat) (qLj : Nat) (qF : Nat) (qFk : Nat) (qFf : Nat) (qFl : Nat) (done : Int32) (brd : Int32) (tup : Int32) (tdn : Int32) (askd : Int32) (answ : Nat → Int32) (tlen : Int32) (tpl : Int32) (tsg : Nat → Int32) (rlen : Int32) (rsz : Int32) (rsg : Nat → Int32) (psz : Int32) (pcd : Nat → Int32) (pld : Nat → Int32) (pct : Nat → Int64) (lpr : Int32) (lful : Bool) (ljn : Nat → Int32) (fsz : Int32) (fkd : Nat → Int32) (ffr : Nat → Int32) (fto : Nat → Int32) (p1 : Int32) (p2 : Int32) (p3 : Int64) {rr : Bool} (hM : m_Or_isChanged p1 p2 p3 tup tdn psz pcd pld pct lful ljn = some rr) : Ct l y_Or_isChanged (WS y_Or_isChanged b_Or_isChanged 7 (some .boolean)) rm_Or_isChanged D cT [.ref qO, .int p1, .int p2, .long p3] [(qO, .inr (0, [.ref qT, .ref qR, .ref qP, .ref qL, .ref qF, .int done, .int brd, .int tup, .int tdn, .ref qOa, .int askd])), (qOa, .inl (cT 0, 149, .inl answ)), (qT, .inr (1, [.ref qTs, .int tlen, .int tpl])), (qTs, .inl (cT 2, 300, .inl tsg)), (qR, .inr (2, [.ref qRs, .int rlen, .int rsz])), (qRs, .inl (cT 2, 300, .inl rsg)), (qP, .inr (3, [.ref qPc, .ref qPl, .ref qPv, .int psz])), (qPc, .inl (cT 0, 12, .inl pcd)), (qPl, .inl (cT 0, 12, .inl pld)), (qPv, .inl (cT 1, 12, .inr (.inl pct))), (qL, .inr (4, [.ref qLj, .int lpr, .int (bI lful)])), (qLj, .inl (cT 0, 10, .inl ljn)), (qF, .inr (5, [.ref qFk, .ref qFf, .ref qFl, .int fsz])), (qFk, .inl (cT 0, 20, .inl fkd)), (qFf, .inl (cT 0, 20, .inl ffr)), (qFl, .inl (cT 0, 20, .inl fto))] (some (.int (bI rr))) [(qO, .inr (0, [.ref qT, .ref qR, .ref qP, .ref qL, .ref qF, .int done, .int brd, .int tup, .int tdn, .ref qOa, .int askd])), (qOa, .inl (cT 0, 149, .inl answ)), (qT, .inr (1, [.ref qTs, .int tlen, .int tpl])), (qTs, .inl (cT 2, 300, .inl tsg)), (qR, .inr (2, [.ref qRs, .int rlen, .int rsz])), (qRs, .inl (cT 2, 300, .inl rsg)), (qP, .inr (3, [.ref qPc, .ref qPl, .ref qPv, .int psz])), (qPc, .inl (cT 0, 12, .inl pcd)), (qPl, .inl (cT 0, 12, .inl pld)), (qPv, .inl (cT 1, 12, .inr (.inl pct))), (qL, .inr (4, [.ref qLj, .int lpr, .int (bI lful)])), (qLj, .inl (cT 0, 10, .inl ljn)), (qF, .inr (5, [.ref qFk, .ref qFf, .ref qFl, .int fsz])), (qFk, .inl (cT 0, 20, .inl fkd)), (qFf, .inl (cT 0, 20, .inl ffr)), (qFl, .inl (cT 0, 20, .inl fto))] 0 0 := by
  intro sz
  refine Met.ofW (cc := b_Or_isChanged) (maxL := 7) (ret := (some .boolean)) (by decide) rfl ?_
  intro p e s m args below meth c s₁ B hml hv
  obtain ⟨rfl, hsz, hP, hE, hD0⟩ := hv
  have hx := B.exec
  have hb := B.bytes
  have hr := B.returns
  have hts : ∀ w ∈ TB, w.before _ s = true := fun w h => atoms_spec (ws := WS y_Or_isChanged b_Or_isChanged 7 (some .boolean)) B.pre w (List.mem_cons_of_mem _ h)
  have hown : s.vm.findClass R_Or = some m.cls := findClass_of_methodNamed B.named
  have hlocks := B.notSynchronized
  have hK := hE.1
  have hN := hE.2
  subst hsz
  have hD := hD0.self (sz := s.heap.size)
  generalize hAe : va_A [(qO, .inr (0, [.ref qT, .ref qR, .ref qP, .ref qL, .ref qF, .int done, .int brd, .int tup, .int tdn, .ref qOa, .int askd])), (qOa, .inl (cT 0, 149, .inl answ)), (qT, .inr (1, [.ref qTs, .int tlen, .int tpl])), (qTs, .inl (cT 2, 300, .inl tsg)), (qR, .inr (2, [.ref qRs, .int rlen, .int rsz])), (qRs, .inl (cT 2, 300, .inl rsg)), (qP, .inr (3, [.ref qPc, .ref qPl, .ref qPv, .int psz])), (qPc, .inl (cT 0, 12, .inl pcd)), (qPl, .inl (cT 0, 12, .inl pld)), (qPv, .inl (cT 1, 12, .inr (.inl pct))), (qL, .inr (4, [.ref qLj, .int lpr, .int (bI lful)])), (qLj, .inl (cT 0, 10, .inl ljn)), (qF, .inr (5, [.ref qFk, .ref qFf, .ref qFl, .int fsz])), (qFk, .inl (cT 0, 20, .inl fkd)), (qFf, .inl (cT 0, 20, .inl ffr)), (qFl, .inl (cT 0, 20, .inl fto))] s.heap.size = A at hD ⊢
  have hA : ∀ q : Nat, s.heap.size ≤ q → A q := fun q h => by rw [← hAe]; exact Or.inr h
  have hS : va_S A s.heap s.heap [] := va_S.rf
  have hl := lv_entry ([.ref qO, .int p1, .int p2, .long p3]) (n := 7) (Nat.le_of_ble_eq_true rfl)
  rw [lg_entry_eq]
  generalize (lg_sl ([.ref qO, .int p1, .int p2, .long p3]) ++ List.replicate (7 - (lg_sl ([.ref qO, .int p1, .int p2, .long p3])).length) Slot.unset).toArray = ls at hl ⊢
  have hl : lv_has ls 7 [(0, .ref qO), (1, .int p1), (2, .int p2), (3, .long p3)] := hl
  have S : CallFix p m c b_Or_isChanged 7 s _ TB R_Or := ⟨hx, hb, hml, hown, hts⟩
  unfold m_Or_isChanged at hM
  refine lv_aload_n hx hb d_Or_isChanged_0 rfl (lv_at hl 0 rfl) ?_
  refine va_get (D := D) (ci := 0) (v := .ref qP) (C := R_Or) (T := F_Or) (N := 11) hx hb hts i_Or hown hK hP 0 rfl rfl 2 (by decide) (hts _ iw_4820ce3a) (fun _ h9 => h9) rfl d_Or_isChanged_1 ?_
  refine lv_aload_n hx hb d_Or_isChanged_4 rfl (lv_at hl 0 rfl) ?_
  refine va_get (D := D) (ci := 0) (v := .ref qL) (C := R_Or) (T := F_Or) (N := 11) hx hb hts i_Or hown hK hP 0 rfl rfl 3 (by decide) (hts _ iw_d5228362) (fun _ h9 => h9) rfl d_Or_isChanged_5 ?_
  obtain ⟨r_8, hc_8, hM⟩ := bd1T hM
  refine ca_V (As := []) (rest := [.ref qP]) (wr := [(qO, .inr (0, [.ref qT, .ref qR, .ref qP, .ref qL, .ref qF, .int done, .int brd, .int tup, .int tdn, .ref qOa, .int askd])), (qOa, .inl (cT 0, 149, .inl answ)), (qT, .inr (1, [.ref qTs, .int tlen, .int tpl])), (qTs, .inl (cT 2, 300, .inl tsg)), (qR, .inr (2, [.ref qRs, .int rlen, .int rsz])), (qRs, .inl (cT 2, 300, .inl rsg)), (qP, .inr (3, [.ref qPc, .ref qPl, .ref qPv, .int psz])), (qPc, .inl (cT 0, 12, .inl pcd)), (qPl, .inl (cT 0, 12, .inl pld)), (qPv, .inl (cT 1, 12, .inr (.inl pct))), (qF, .inr (5, [.ref qFk, .ref qFf, .ref qFl, .int fsz])), (qFk, .inl (cT 0, 20, .inl fkd)), (qFf, .inl (cT 0, 20, .inl ffr)), (qFl, .inl (cT 0, 20, .inl fto))]) (w2 := [(qO, .inr (0, [.ref qT, .ref qR, .ref qP, .ref qL, .ref qF, .int done, .int brd, .int tup, .int tdn, .ref qOa, .int askd])), (qOa, .inl (cT 0, 149, .inl answ)), (qT, .inr (1, [.ref qTs, .int tlen, .int tpl])), (qTs, .inl (cT 2, 300, .inl tsg)), (qR, .inr (2, [.ref qRs, .int rlen, .int rsz])), (qRs, .inl (cT 2, 300, .inl rsg)), (qP, .inr (3, [.ref qPc, .ref qPl, .ref qPv, .int psz])), (qPc, .inl (cT 0, 12, .inl pcd)), (qPl, .inl (cT 0, 12, .inl pld)), (qPv, .inl (cT 1, 12, .inr (.inl pct))), (qL, .inr (4, [.ref qLj, .int lpr, .int (bI lful)])), (qLj, .inl (cT 0, 10, .inl ljn)), (qF, .inr (5, [.ref qFk, .ref qFf, .ref qFl, .int fsz])), (qFk, .inl (cT 0, 20, .inl fkd)), (qFf, .inl (cT 0, 20, .inl ffr)), (qFl, .inl (cT 0, 20, .inl fto))]) S hE (c_Lands_ownLands l D cT qL qLj lpr lful ljn hc_8) gw_7c92819f rfl rfl ⟨Nat.le_of_ble_eq_true rfl, Nat.le_of_ble_eq_true rfl⟩ (ci := 4) rfl rfl (k0 := 0) rfl rfl hl.1 rfl (Nat.le_of_ble_eq_true rfl) d_Or_isChanged_8 ⟨Nat.zero_le _, Nat.zero_le _⟩ hP hD hS hA [10, 11] [0, 1, 2, 3, 4, 5, 6, 7, 8, 9, 12, 13, 14, 15] [0, 1, 2, 3, 4, 5, 6, 7, 8, 9, 14, 15, 10, 11, 12, 13] rfl rfl (by decide) (by decide) rfl (by decide) (by decide) (fun H locs hP hD hS => ?_)
  refine lv_iload_n hx hb d_Or_isChanged_11 rfl (lv_at hl 1 rfl) ?_
  refine lv_iload_n hx hb d_Or_isChanged_12 rfl (lv_at hl 2 rfl) ?_
  obtain ⟨r_13, hc_13, hM⟩ := bd1T hM
  refine ca_V (As := [.int r_8, .int p1, .int p2]) (rest := []) (wr := [(qO, .inr (0, [.ref qT, .ref qR, .ref qP, .ref qL, .ref qF, .int done, .int brd, .int tup, .int tdn, .ref qOa, .int askd])), (qOa, .inl (cT 0, 149, .inl answ)), (qT, .inr (1, [.ref qTs, .int tlen, .int tpl])), (qTs, .inl (cT 2, 300, .inl tsg)), (qR, .inr (2, [.ref qRs, .int rlen, .int rsz])), (qRs, .inl (cT 2, 300, .inl rsg)), (qL, .inr (4, [.ref qLj, .int lpr, .int (bI lful)])), (qLj, .inl (cT 0, 10, .inl ljn)), (qF, .inr (5, [.ref qFk, .ref qFf, .ref qFl, .int fsz])), (qFk, .inl (cT 0, 20, .inl fkd)), (qFf, .inl (cT 0, 20, .inl ffr)), (qFl, .inl (cT 0, 20, .inl fto))]) (w2 := [(qO, .inr (0, [.ref qT, .ref qR, .ref qP, .ref qL, .ref qF, .int done, .int brd, .int tup, .int tdn, .ref qOa, .int askd])), (qOa, .inl (cT 0, 149, .inl answ)), (qT, .inr (1, [.ref qTs, .int tlen, .int tpl])), (qTs, .inl (cT 2, 300, .inl tsg)), (qR, .inr (2, [.ref qRs, .int rlen, .int rsz])), (qRs, .inl (cT 2, 300, .inl rsg)), (qP, .inr (3, [.ref qPc, .ref qPl, .ref qPv, .int psz])), (qPc, .inl (cT 0, 12, .inl pcd)), (qPl, .inl (cT 0, 12, .inl pld)), (qPv, .inl (cT 1, 12, .inr (.inl pct))), (qL, .inr (4, [.ref qLj, .int lpr, .int (bI lful)])), (qLj, .inl (cT 0, 10, .inl ljn)), (qF, .inr (5, [.ref qFk, .ref qFf, .ref qFl, .int fsz])), (qFk, .inl (cT 0, 20, .inl fkd)), (qFf, .inl (cT 0, 20, .inl ffr)), (qFl, .inl (cT 0, 20, .inl fto))]) S hE (c_Parts_foreignCentsAlike l D cT qP qPc qPl qPv psz pcd pld pct r_8 p1 p2 hc_13) gw_6886e95e rfl rfl ⟨Nat.le_of_ble_eq_true rfl, Nat.le_of_ble_eq_true rfl⟩ (ci := 3) rfl rfl (k0 := 0) rfl rfl hl.1 rfl (Nat.le_of_ble_eq_true rfl) d_Or_isChanged_13 ⟨Nat.zero_le _, Nat.zero_le _⟩ hP hD hS hA [6, 7, 8, 9] [0, 1, 2, 3, 4, 5, 10, 11, 12, 13, 14, 15] [0, 1, 2, 3, 4, 5, 12, 13, 14, 15, 6, 7, 8, 9, 10, 11] rfl rfl (by decide) (by decide) rfl (by decide) (by decide) (fun H locs hP hD hS => ?_)
  refine lv_lstore (lv' := [(5, .long r_13), (0, .ref qO), (1, .int p1), (2, .int p2), (3, .long p3)]) hx hb d_Or_isChanged_16 hl (by decide) rfl (fun ls hl => ?_)
  refine lv_lload hx hb d_Or_isChanged_18 (lv_at hl 0 rfl) ?_
  refine lv_aload_n hx hb d_Or_isChanged_20 rfl (lv_at hl 1 rfl) ?_
  refine va_get (D := D) (ci := 0) (v := .int tdn) (C := R_Or) (T := F_Or) (N := 11) hx hb hts i_Or hown hK hP 0 rfl rfl 8 (by decide) (hts _ iw_572302aa) (fun _ h9 => h9) rfl d_Or_isChanged_21 ?_
  refine lv_i2l hx hb d_Or_isChanged_24 rfl ?_
  refine lv_lmul hx hb d_Or_isChanged_25 ?_
  refine lv_aload_n hx hb d_Or_isChanged_26 rfl (lv_at hl 1 rfl) ?_
  refine va_get (D := D) (ci := 0) (v := .int tup) (C := R_Or) (T := F_Or) (N := 11) hx hb hts i_Or hown hK hP 0 rfl rfl 7 (by decide) (hts _ iw_ca124b6b) (fun _ h9 => h9) rfl d_Or_isChanged_27 ?_
  refine lv_i2l hx hb d_Or_isChanged_30 rfl ?_
  refine lv_lload_n hx hb d_Or_isChanged_31 rfl (lv_at hl 4 rfl) ?_
  refine lv_lmul hx hb d_Or_isChanged_32 ?_
  refine W.lcmp hx hb d_Or_isChanged_33 ?_
  refine lv_if_gt (tgt := 41) hx hb d_Or_isChanged_34 (by decide) (fun c_34 => ?_) (fun c_34 => ?_)
  · have hM := itT hM c_34
    refine lv_iconst (v := 0) hx hb d_Or_isChanged_41 (by decide) ?_
    have eo0 := Option.some.inj hM
    subst eo0
    exact rt_z S hr hlocks hP hD hS d_Or_isChanged_42
  · have hM := itF hM c_34
    refine lv_iconst (v := 1) hx hb d_Or_isChanged_37 (by decide) ?_
    refine lv_goto (tgt := 42) hx hb d_Or_isChanged_38 (by decide) ?_
    have eo0 := Option.some.inj hM
    subst eo0
    exact rt_z S hr hlocks hP hD hS d_Or_isChanged_42
def rm_Or_factorHolds : Room := { frames := 3, cells := 0, slots := 0, locals := 76 }
set_option maxHeartbeats 4000000 in
set_option maxRecDepth 100000 in
theorem c_Or_factorHolds (l : Launch) (D : va_G) (cT : Nat → ClassId) (qO : Nat) (qOa : Nat) (qT : Nat) (qTs : Nat) (qR : Nat) (qRs : Nat) (qP : Nat) (qPc : Nat) (qPl : Nat) (qPv : Nat) (qL : Nat) (qLj : Nat) (qF : Nat) (qFk : Nat) (qFf : Nat) (qFl : Nat) (done : Int32) (brd : Int32) (tup : Int32) (tdn : Int32) (askd : Int32) (answ : Nat → Int32) (tlen : Int32) (tpl : Int32) (tsg : Nat → Int32) (rlen : Int32) (rsz : Int32) (rsg : Nat → Int32) (psz : Int32) (pcd : Nat → Int32) (pld : Nat → Int32) (pct : Nat → Int64) (lpr : Int32) (lful : Bool) (ljn : Nat → Int32) (fsz : Int32) (fkd : Nat → Int32) (ffr : Nat → Int32) (fto : Nat → Int32) (p1 : Int32) (p2 : Int32) (p3 : Int64) {rr : Bool} (hM : m_Or_factorHolds p1 p2 p3 done tup tdn rlen rsg psz pcd pld pct lful ljn = some rr) : Ct l y_Or_factorHolds (WS y_Or_factorHolds b_Or_factorHolds 7 (some .boolean)) rm_Or_factorHolds D cT [.ref qO, .int p1, .int p2, .long p3] [(qO, .inr (0, [.ref qT, .ref qR, .ref qP, .ref qL, .ref qF, .int done, .int brd, .int tup, .int tdn, .ref qOa, .int askd])), (qOa, .inl (cT 0, 149, .inl answ)), (qT, .inr (1, [.ref qTs, .int tlen, .int tpl])), (qTs, .inl (cT 2, 300, .inl tsg)), (qR, .inr (2, [.ref qRs, .int rlen, .int rsz])), (qRs, .inl (cT 2, 300, .inl rsg)), (qP, .inr (3, [.ref qPc, .ref qPl, .ref qPv, .int psz])), (qPc, .inl (cT 0, 12, .inl pcd)), (qPl, .inl (cT 0, 12, .inl pld)), (qPv, .inl (cT 1, 12, .inr (.inl pct))), (qL, .inr (4, [.ref qLj, .int lpr, .int (bI lful)])), (qLj, .inl (cT 0, 10, .inl ljn)), (qF, .inr (5, [.ref qFk, .ref qFf, .ref qFl, .int fsz])), (qFk, .inl (cT 0, 20, .inl fkd)), (qFf, .inl (cT 0, 20, .inl ffr)), (qFl, .inl (cT 0, 20, .inl fto))] (some (.int (bI rr))) [(qO, .inr (0, [.ref qT, .ref qR, .ref qP, .ref qL, .ref qF, .int done, .int brd, .int tup, .int tdn, .ref qOa, .int askd])), (qOa, .inl (cT 0, 149, .inl answ)), (qT, .inr (1, [.ref qTs, .int tlen, .int tpl])), (qTs, .inl (cT 2, 300, .inl tsg)), (qR, .inr (2, [.ref qRs, .int rlen, .int rsz])), (qRs, .inl (cT 2, 300, .inl rsg)), (qP, .inr (3, [.ref qPc, .ref qPl, .ref qPv, .int psz])), (qPc, .inl (cT 0, 12, .inl pcd)), (qPl, .inl (cT 0, 12, .inl pld)), (qPv, .inl (cT 1, 12, .inr (.inl pct))), (qL, .inr (4, [.ref qLj, .int lpr, .int (bI lful)])), (qLj, .inl (cT 0, 10, .inl ljn)), (qF, .inr (5, [.ref qFk, .ref qFf, .ref qFl, .int fsz])), (qFk, .inl (cT 0, 20, .inl fkd)), (qFf, .inl (cT 0, 20, .inl ffr)), (qFl, .inl (cT 0, 20, .inl fto))] 0 0 := by
  intro sz
  refine Met.ofW (cc := b_Or_factorHolds) (maxL := 7) (ret := (some .boolean)) (by decide) rfl ?_
  intro p e s m args below meth c s₁ B hml hv
  obtain ⟨rfl, hsz, hP, hE, hD0⟩ := hv
  have hx := B.exec
  have hb := B.bytes
  have hr := B.returns
  have hts : ∀ w ∈ TB, w.before _ s = true := fun w h => atoms_spec (ws := WS y_Or_factorHolds b_Or_factorHolds 7 (some .boolean)) B.pre w (List.mem_cons_of_mem _ h)
  have hown : s.vm.findClass R_Or = some m.cls := findClass_of_methodNamed B.named
  have hlocks := B.notSynchronized
  have hK := hE.1
  have hN := hE.2
  subst hsz
  have hD := hD0.self (sz := s.heap.size)
  generalize hAe : va_A [(qO, .inr (0, [.ref qT, .ref qR, .ref qP, .ref qL, .ref qF, .int done, .int brd, .int tup, .int tdn, .ref qOa, .int askd])), (qOa, .inl (cT 0, 149, .inl answ)), (qT, .inr (1, [.ref qTs, .int tlen, .int tpl])), (qTs, .inl (cT 2, 300, .inl tsg)), (qR, .inr (2, [.ref qRs, .int rlen, .int rsz])), (qRs, .inl (cT 2, 300, .inl rsg)), (qP, .inr (3, [.ref qPc, .ref qPl, .ref qPv, .int psz])), (qPc, .inl (cT 0, 12, .inl pcd)), (qPl, .inl (cT 0, 12, .inl pld)), (qPv, .inl (cT 1, 12, .inr (.inl pct))), (qL, .inr (4, [.ref qLj, .int lpr, .int (bI lful)])), (qLj, .inl (cT 0, 10, .inl ljn)), (qF, .inr (5, [.ref qFk, .ref qFf, .ref qFl, .int fsz])), (qFk, .inl (cT 0, 20, .inl fkd)), (qFf, .inl (cT 0, 20, .inl ffr)), (qFl, .inl (cT 0, 20, .inl fto))] s.heap.size = A at hD ⊢
  have hA : ∀ q : Nat, s.heap.size ≤ q → A q := fun q h => by rw [← hAe]; exact Or.inr h
  have hS : va_S A s.heap s.heap [] := va_S.rf
  have hl := lv_entry ([.ref qO, .int p1, .int p2, .long p3]) (n := 7) (Nat.le_of_ble_eq_true rfl)
  rw [lg_entry_eq]
  generalize (lg_sl ([.ref qO, .int p1, .int p2, .long p3]) ++ List.replicate (7 - (lg_sl ([.ref qO, .int p1, .int p2, .long p3])).length) Slot.unset).toArray = ls at hl ⊢
  have hl : lv_has ls 7 [(0, .ref qO), (1, .int p1), (2, .int p2), (3, .long p3)] := hl
  have S : CallFix p m c b_Or_factorHolds 7 s _ TB R_Or := ⟨hx, hb, hml, hown, hts⟩
  unfold m_Or_factorHolds at hM
  refine lv_aload_n hx hb d_Or_factorHolds_0 rfl (lv_at hl 0 rfl) ?_
  refine va_get (D := D) (ci := 0) (v := .ref qR) (C := R_Or) (T := F_Or) (N := 11) hx hb hts i_Or hown hK hP 0 rfl rfl 1 (by decide) (hts _ iw_1ffb187c) (fun _ h9 => h9) rfl d_Or_factorHolds_1 ?_
  refine va_getN (D := D) (ci := 2) (v := .ref qRs) (C := R_Rows) (T := F_Rows) (N := 3) hx hb hts i_Rows hown hK hP 4 rfl rfl 0 (by decide) (va_Nw.use rfl (hN _ nl_07236010)) (fun _ h9 => h9) rfl d_Or_factorHolds_4 ?_
  refine lv_iload_n hx hb d_Or_factorHolds_7 rfl (lv_at hl 1 rfl) ?_
  obtain ⟨hin_8, hM⟩ := ixT hM
  refine va_cald hx hb hK hP 5 2 rfl rfl hin_8 d_Or_factorHolds_8 ?_
  refine lv_istore (lv' := [(5, .int (rsg p1.toNatClampNeg)), (0, .ref qO), (1, .int p1), (2, .int p2), (3, .long p3)]) hx hb d_Or_factorHolds_9 hl (by decide) rfl (fun ls hl => ?_)
  refine lv_iload hx hb d_Or_factorHolds_11 (lv_at hl 0 rfl) ?_
  refine lv_bipush (v := 87) hx hb d_Or_factorHolds_13 (by decide) ?_
  refine lv_icmp_ne (tgt := 34) hx hb d_Or_factorHolds_15 (by decide) (fun c_15 => ?_) (fun c_15 => ?_)
  · have hM := itF hM c_15
    refine lv_iload hx hb d_Or_factorHolds_34 (lv_at hl 0 rfl) ?_
    refine lv_bipush (v := 67) hx hb d_Or_factorHolds_36 (by decide) ?_
    refine lv_icmp_ne (tgt := 49) hx hb d_Or_factorHolds_38 (by decide) (fun c_38 => ?_) (fun c_38 => ?_)
    · have hM := itF hM c_38
      refine lv_iload hx hb d_Or_factorHolds_49 (lv_at hl 0 rfl) ?_
      refine lv_bipush (v := 72) hx hb d_Or_factorHolds_51 (by decide) ?_
      refine lv_icmp_ne (tgt := 64) hx hb d_Or_factorHolds_53 (by decide) (fun c_53 => ?_) (fun c_53 => ?_)
      · have hM := itF hM c_53
        refine lv_iload hx hb d_Or_factorHolds_64 (lv_at hl 0 rfl) ?_
        refine lv_bipush (v := 83) hx hb d_Or_factorHolds_66 (by decide) ?_
        refine lv_icmp_ne (tgt := 80) hx hb d_Or_factorHolds_68 (by decide) (fun c_68 => ?_) (fun c_68 => ?_)
        · have hM := itF hM c_68
          refine lv_aload_n hx hb d_Or_factorHolds_80 rfl (lv_at hl 1 rfl) ?_
          refine va_get (D := D) (ci := 0) (v := .ref qR) (C := R_Or) (T := F_Or) (N := 11) hx hb hts i_Or hown hK hP 0 rfl rfl 1 (by decide) (hts _ iw_1ffb187c) (fun _ h9 => h9) rfl d_Or_factorHolds_81 ?_
          refine lv_iload_n hx hb d_Or_factorHolds_84 rfl (lv_at hl 2 rfl) ?_
          refine lv_iconst (v := 1) hx hb d_Or_factorHolds_85 (by decide) ?_
          refine lv_iadd hx hb d_Or_factorHolds_86 ?_
          obtain ⟨r_87, hc_87, hM⟩ := bd1T hM
          refine ca_V (As := [.int (p1 + 1)]) (rest := []) (wr := [(qO, .inr (0, [.ref qT, .ref qR, .ref qP, .ref qL, .ref qF, .int done, .int brd, .int tup, .int tdn, .ref qOa, .int askd])), (qOa, .inl (cT 0, 149, .inl answ)), (qT, .inr (1, [.ref qTs, .int tlen, .int tpl])), (qTs, .inl (cT 2, 300, .inl tsg)), (qP, .inr (3, [.ref qPc, .ref qPl, .ref qPv, .int psz])), (qPc, .inl (cT 0, 12, .inl pcd)), (qPl, .inl (cT 0, 12, .inl pld)), (qPv, .inl (cT 1, 12, .inr (.inl pct))), (qL, .inr (4, [.ref qLj, .int lpr, .int (bI lful)])), (qLj, .inl (cT 0, 10, .inl ljn)), (qF, .inr (5, [.ref qFk, .ref qFf, .ref qFl, .int fsz])), (qFk, .inl (cT 0, 20, .inl fkd)), (qFf, .inl (cT 0, 20, .inl ffr)), (qFl, .inl (cT 0, 20, .inl fto))]) (w2 := [(qO, .inr (0, [.ref qT, .ref qR, .ref qP, .ref qL, .ref qF, .int done, .int brd, .int tup, .int tdn, .ref qOa, .int askd])), (qOa, .inl (cT 0, 149, .inl answ)), (qT, .inr (1, [.ref qTs, .int tlen, .int tpl])), (qTs, .inl (cT 2, 300, .inl tsg)), (qR, .inr (2, [.ref qRs, .int rlen, .int rsz])), (qRs, .inl (cT 2, 300, .inl rsg)), (qP, .inr (3, [.ref qPc, .ref qPl, .ref qPv, .int psz])), (qPc, .inl (cT 0, 12, .inl pcd)), (qPl, .inl (cT 0, 12, .inl pld)), (qPv, .inl (cT 1, 12, .inr (.inl pct))), (qL, .inr (4, [.ref qLj, .int lpr, .int (bI lful)])), (qLj, .inl (cT 0, 10, .inl ljn)), (qF, .inr (5, [.ref qFk, .ref qFf, .ref qFl, .int fsz])), (qFk, .inl (cT 0, 20, .inl fkd)), (qFf, .inl (cT 0, 20, .inl ffr)), (qFl, .inl (cT 0, 20, .inl fto))]) S hE (c_Rows_numberAt l D cT qR qRs rlen rsz rsg (p1 + 1) hc_87) gw_208b8cab rfl rfl ⟨Nat.le_of_ble_eq_true rfl, Nat.le_of_ble_eq_true rfl⟩ (ci := 2) rfl rfl (k0 := 0) rfl rfl hl.1 rfl (Nat.le_of_ble_eq_true rfl) d_Or_factorHolds_87 ⟨Nat.zero_le _, Nat.zero_le _⟩ hP hD hS hA [4, 5] [0, 1, 2, 3, 6, 7, 8, 9, 10, 11, 12, 13, 14, 15] [0, 1, 2, 3, 14, 15, 4, 5, 6, 7, 8, 9, 10, 11, 12, 13] rfl rfl (by decide) (by decide) rfl (by decide) (by decide) (fun H locs hP hD hS => ?_)
          refine lv_istore (lv' := [(6, .int r_87), (5, .int (rsg p1.toNatClampNeg)), (0, .ref qO), (1, .int p1), (2, .int p2), (3, .long p3)]) hx hb d_Or_factorHolds_90 hl (by decide) rfl (fun ls hl => ?_)
          refine lv_iload hx hb d_Or_factorHolds_92 (lv_at hl 1 rfl) ?_
          refine lv_bipush (v := 86) hx hb d_Or_factorHolds_94 (by decide) ?_
          refine lv_icmp_ne (tgt := 109) hx hb d_Or_factorHolds_96 (by decide) (fun c_96 => ?_) (fun c_96 => ?_)
          · have hM := itF hM c_96
            refine lv_aload_n hx hb d_Or_factorHolds_109 rfl (lv_at hl 2 rfl) ?_
            refine va_get (D := D) (ci := 0) (v := .int done) (C := R_Or) (T := F_Or) (N := 11) hx hb hts i_Or hown hK hP 0 rfl rfl 5 (by decide) (hts _ iw_9350811e) (fun _ h9 => h9) rfl d_Or_factorHolds_110 ?_
            refine lv_iload hx hb d_Or_factorHolds_113 (lv_at hl 0 rfl) ?_
            obtain ⟨r_115, hc_115, hM⟩ := bd1T hM
            refine ca_S (As := [.int done, .int r_87]) (rest := []) (wr := [(qO, .inr (0, [.ref qT, .ref qR, .ref qP, .ref qL, .ref qF, .int done, .int brd, .int tup, .int tdn, .ref qOa, .int askd])), (qOa, .inl (cT 0, 149, .inl answ)), (qT, .inr (1, [.ref qTs, .int tlen, .int tpl])), (qTs, .inl (cT 2, 300, .inl tsg)), (qR, .inr (2, [.ref qRs, .int rlen, .int rsz])), (qRs, .inl (cT 2, 300, .inl rsg)), (qP, .inr (3, [.ref qPc, .ref qPl, .ref qPv, .int psz])), (qPc, .inl (cT 0, 12, .inl pcd)), (qPl, .inl (cT 0, 12, .inl pld)), (qPv, .inl (cT 1, 12, .inr (.inl pct))), (qL, .inr (4, [.ref qLj, .int lpr, .int (bI lful)])), (qLj, .inl (cT 0, 10, .inl ljn)), (qF, .inr (5, [.ref qFk, .ref qFf, .ref qFl, .int fsz])), (qFk, .inl (cT 0, 20, .inl fkd)), (qFf, .inl (cT 0, 20, .inl ffr)), (qFl, .inl (cT 0, 20, .inl fto))]) (w2 := [(qO, .inr (0, [.ref qT, .ref qR, .ref qP, .ref qL, .ref qF, .int done, .int brd, .int tup, .int tdn, .ref qOa, .int askd])), (qOa, .inl (cT 0, 149, .inl answ)), (qT, .inr (1, [.ref qTs, .int tlen, .int tpl])), (qTs, .inl (cT 2, 300, .inl tsg)), (qR, .inr (2, [.ref qRs, .int rlen, .int rsz])), (qRs, .inl (cT 2, 300, .inl rsg)), (qP, .inr (3, [.ref qPc, .ref qPl, .ref qPv, .int psz])), (qPc, .inl (cT 0, 12, .inl pcd)), (qPl, .inl (cT 0, 12, .inl pld)), (qPv, .inl (cT 1, 12, .inr (.inl pct))), (qL, .inr (4, [.ref qLj, .int lpr, .int (bI lful)])), (qLj, .inl (cT 0, 10, .inl ljn)), (qF, .inr (5, [.ref qFk, .ref qFf, .ref qFl, .int fsz])), (qFk, .inl (cT 0, 20, .inl fkd)), (qFf, .inl (cT 0, 20, .inl ffr)), (qFl, .inl (cT 0, 20, .inl fto))]) S hE (c_Or_hasBit l D cT done r_87 hc_115) gw_b05a7136 rfl rfl ⟨Nat.le_of_ble_eq_true rfl, Nat.le_of_ble_eq_true rfl⟩ rfl hl.1 rfl (Nat.le_of_ble_eq_true rfl) d_Or_factorHolds_115 ⟨Nat.zero_le _, Nat.zero_le _⟩ hP hD hS hA [] [0, 1, 2, 3, 4, 5, 6, 7, 8, 9, 10, 11, 12, 13, 14, 15] [0, 1, 2, 3, 4, 5, 6, 7, 8, 9, 10, 11, 12, 13, 14, 15] rfl rfl (by decide) (by decide) rfl (by decide) (by decide) (fun H locs hP hD hS => ?_)
            have eo0 := Option.some.inj hM
            subst eo0
            exact rt_z S hr hlocks hP hD hS d_Or_factorHolds_118
          · have hM := itT hM c_96
            refine lv_aload_n hx hb d_Or_factorHolds_99 rfl (lv_at hl 2 rfl) ?_
            refine lv_iload hx hb d_Or_factorHolds_100 (lv_at hl 0 rfl) ?_
            refine lv_lload_n hx hb d_Or_factorHolds_102 rfl (lv_at hl 5 rfl) ?_
            obtain ⟨r_103, hc_103, hM⟩ := bd1T hM
            refine ca_V (As := [.int r_87, .long p3]) (rest := []) (wr := []) (w2 := [(qO, .inr (0, [.ref qT, .ref qR, .ref qP, .ref qL, .ref qF, .int done, .int brd, .int tup, .int tdn, .ref qOa, .int askd])), (qOa, .inl (cT 0, 149, .inl answ)), (qT, .inr (1, [.ref qTs, .int tlen, .int tpl])), (qTs, .inl (cT 2, 300, .inl tsg)), (qR, .inr (2, [.ref qRs, .int rlen, .int rsz])), (qRs, .inl (cT 2, 300, .inl rsg)), (qP, .inr (3, [.ref qPc, .ref qPl, .ref qPv, .int psz])), (qPc, .inl (cT 0, 12, .inl pcd)), (qPl, .inl (cT 0, 12, .inl pld)), (qPv, .inl (cT 1, 12, .inr (.inl pct))), (qL, .inr (4, [.ref qLj, .int lpr, .int (bI lful)])), (qLj, .inl (cT 0, 10, .inl ljn)), (qF, .inr (5, [.ref qFk, .ref qFf, .ref qFl, .int fsz])), (qFk, .inl (cT 0, 20, .inl fkd)), (qFf, .inl (cT 0, 20, .inl ffr)), (qFl, .inl (cT 0, 20, .inl fto))]) S hE (c_Or_isShareWithin l D cT qO qOa qT qTs qR qRs qP qPc qPl qPv qL qLj qF qFk qFf qFl done brd tup tdn askd answ tlen tpl tsg rlen rsz rsg psz pcd pld pct lpr lful ljn fsz fkd ffr fto r_87 p3 hc_103) gw_f7ca5989 rfl rfl ⟨Nat.le_of_ble_eq_true rfl, Nat.le_of_ble_eq_true rfl⟩ (ci := 0) rfl rfl (k0 := 0) rfl rfl hl.1 rfl (Nat.le_of_ble_eq_true rfl) d_Or_factorHolds_103 ⟨Nat.zero_le _, Nat.zero_le _⟩ hP hD hS hA [0, 1, 2, 3, 4, 5, 6, 7, 8, 9, 10, 11, 12, 13, 14, 15] [] [0, 1, 2, 3, 4, 5, 6, 7, 8, 9, 10, 11, 12, 13, 14, 15] rfl rfl (by decide) (by decide) rfl (by decide) (by decide) (fun H locs hP hD hS => ?_)
            refine lv_goto (tgt := 118) hx hb d_Or_factorHolds_106 (by decide) ?_
            have eo0 := Option.some.inj hM
            subst eo0
            exact rt_z S hr hlocks hP hD hS d_Or_factorHolds_118
        · have hM := itT hM c_68
          refine lv_aload_n hx hb d_Or_factorHolds_71 rfl (lv_at hl 1 rfl) ?_
          refine lv_iload_n hx hb d_Or_factorHolds_72 rfl (lv_at hl 3 rfl) ?_
          refine lv_bipush (v := 6) hx hb d_Or_factorHolds_73 (by decide) ?_
          refine lv_lload_n hx hb d_Or_factorHolds_75 rfl (lv_at hl 4 rfl) ?_
          obtain ⟨r_76, hc_76, hM⟩ := bd1T hM
          refine ca_V (As := [.int p2, .int 6, .long p3]) (rest := []) (wr := []) (w2 := [(qO, .inr (0, [.ref qT, .ref qR, .ref qP, .ref qL, .ref qF, .int done, .int brd, .int tup, .int tdn, .ref qOa, .int askd])), (qOa, .inl (cT 0, 149, .inl answ)), (qT, .inr (1, [.ref qTs, .int tlen, .int tpl])), (qTs, .inl (cT 2, 300, .inl tsg)), (qR, .inr (2, [.ref qRs, .int rlen, .int rsz])), (qRs, .inl (cT 2, 300, .inl rsg)), (qP, .inr (3, [.ref qPc, .ref qPl, .ref qPv, .int psz])), (qPc, .inl (cT 0, 12, .inl pcd)), (qPl, .inl (cT 0, 12, .inl pld)), (qPv, .inl (cT 1, 12, .inr (.inl pct))), (qL, .inr (4, [.ref qLj, .int lpr, .int (bI lful)])), (qLj, .inl (cT 0, 10, .inl ljn)), (qF, .inr (5, [.ref qFk, .ref qFf, .ref qFl, .int fsz])), (qFk, .inl (cT 0, 20, .inl fkd)), (qFf, .inl (cT 0, 20, .inl ffr)), (qFl, .inl (cT 0, 20, .inl fto))]) S hE (c_Or_isChanged l D cT qO qOa qT qTs qR qRs qP qPc qPl qPv qL qLj qF qFk qFf qFl done brd tup tdn askd answ tlen tpl tsg rlen rsz rsg psz pcd pld pct lpr lful ljn fsz fkd ffr fto p2 6 p3 hc_76) gw_7847cc4d rfl rfl ⟨Nat.le_of_ble_eq_true rfl, Nat.le_of_ble_eq_true rfl⟩ (ci := 0) rfl rfl (k0 := 0) rfl rfl hl.1 rfl (Nat.le_of_ble_eq_true rfl) d_Or_factorHolds_76 ⟨Nat.zero_le _, Nat.zero_le _⟩ hP hD hS hA [0, 1, 2, 3, 4, 5, 6, 7, 8, 9, 10, 11, 12, 13, 14, 15] [] [0, 1, 2, 3, 4, 5, 6, 7, 8, 9, 10, 11, 12, 13, 14, 15] rfl rfl (by decide) (by decide) rfl (by decide) (by decide) (fun H locs hP hD hS => ?_)
          have eo0 := Option.some.inj hM
          subst eo0
          exact rt_z S hr hlocks hP hD hS d_Or_factorHolds_79
      · have hM := itT hM c_53
        refine lv_aload_n hx hb d_Or_factorHolds_56 rfl (lv_at hl 1 rfl) ?_
        refine lv_iload_n hx hb d_Or_factorHolds_57 rfl (lv_at hl 3 rfl) ?_
        refine lv_iconst (v := 4) hx hb d_Or_factorHolds_58 (by decide) ?_
        refine lv_lload_n hx hb d_Or_factorHolds_59 rfl (lv_at hl 4 rfl) ?_
        obtain ⟨r_60, hc_60, hM⟩ := bd1T hM
        refine ca_V (As := [.int p2, .int 4, .long p3]) (rest := []) (wr := []) (w2 := [(qO, .inr (0, [.ref qT, .ref qR, .ref qP, .ref qL, .ref qF, .int done, .int brd, .int tup, .int tdn, .ref qOa, .int askd])), (qOa, .inl (cT 0, 149, .inl answ)), (qT, .inr (1, [.ref qTs, .int tlen, .int tpl])), (qTs, .inl (cT 2, 300, .inl tsg)), (qR, .inr (2, [.ref qRs, .int rlen, .int rsz])), (qRs, .inl (cT 2, 300, .inl rsg)), (qP, .inr (3, [.ref qPc, .ref qPl, .ref qPv, .int psz])), (qPc, .inl (cT 0, 12, .inl pcd)), (qPl, .inl (cT 0, 12, .inl pld)), (qPv, .inl (cT 1, 12, .inr (.inl pct))), (qL, .inr (4, [.ref qLj, .int lpr, .int (bI lful)])), (qLj, .inl (cT 0, 10, .inl ljn)), (qF, .inr (5, [.ref qFk, .ref qFf, .ref qFl, .int fsz])), (qFk, .inl (cT 0, 20, .inl fkd)), (qFf, .inl (cT 0, 20, .inl ffr)), (qFl, .inl (cT 0, 20, .inl fto))]) S hE (c_Or_isChanged l D cT qO qOa qT qTs qR qRs qP qPc qPl qPv qL qLj qF qFk qFf qFl done brd tup tdn askd answ tlen tpl tsg rlen rsz rsg psz pcd pld pct lpr lful ljn fsz fkd ffr fto p2 4 p3 hc_60) gw_7847cc4d rfl rfl ⟨Nat.le_of_ble_eq_true rfl, Nat.le_of_ble_eq_true rfl⟩ (ci := 0) rfl rfl (k0 := 0) rfl rfl hl.1 rfl (Nat.le_of_ble_eq_true rfl) d_Or_factorHolds_60 ⟨Nat.zero_le _, Nat.zero_le _⟩ hP hD hS hA [0, 1, 2, 3, 4, 5, 6, 7, 8, 9, 10, 11, 12, 13, 14, 15] [] [0, 1, 2, 3, 4, 5, 6, 7, 8, 9, 10, 11, 12, 13, 14, 15] rfl rfl (by decide) (by decide) rfl (by decide) (by decide) (fun H locs hP hD hS => ?_)
        have eo0 := Option.some.inj hM
        subst eo0
        exact rt_z S hr hlocks hP hD hS d_Or_factorHolds_63
    · have hM := itT hM c_38
      refine lv_aload_n hx hb d_Or_factorHolds_41 rfl (lv_at hl 1 rfl) ?_
      refine lv_iload_n hx hb d_Or_factorHolds_42 rfl (lv_at hl 3 rfl) ?_
      refine lv_iconst (v := 2) hx hb d_Or_factorHolds_43 (by decide) ?_
      refine lv_lload_n hx hb d_Or_factorHolds_44 rfl (lv_at hl 4 rfl) ?_
      obtain ⟨r_45, hc_45, hM⟩ := bd1T hM
      refine ca_V (As := [.int p2, .int 2, .long p3]) (rest := []) (wr := []) (w2 := [(qO, .inr (0, [.ref qT, .ref qR, .ref qP, .ref qL, .ref qF, .int done, .int brd, .int tup, .int tdn, .ref qOa, .int askd])), (qOa, .inl (cT 0, 149, .inl answ)), (qT, .inr (1, [.ref qTs, .int tlen, .int tpl])), (qTs, .inl (cT 2, 300, .inl tsg)), (qR, .inr (2, [.ref qRs, .int rlen, .int rsz])), (qRs, .inl (cT 2, 300, .inl rsg)), (qP, .inr (3, [.ref qPc, .ref qPl, .ref qPv, .int psz])), (qPc, .inl (cT 0, 12, .inl pcd)), (qPl, .inl (cT 0, 12, .inl pld)), (qPv, .inl (cT 1, 12, .inr (.inl pct))), (qL, .inr (4, [.ref qLj, .int lpr, .int (bI lful)])), (qLj, .inl (cT 0, 10, .inl ljn)), (qF, .inr (5, [.ref qFk, .ref qFf, .ref qFl, .int fsz])), (qFk, .inl (cT 0, 20, .inl fkd)), (qFf, .inl (cT 0, 20, .inl ffr)), (qFl, .inl (cT 0, 20, .inl fto))]) S hE (c_Or_isChanged l D cT qO qOa qT qTs qR qRs qP qPc qPl qPv qL qLj qF qFk qFf qFl done brd tup tdn askd answ tlen tpl tsg rlen rsz rsg psz pcd pld pct lpr lful ljn fsz fkd ffr fto p2 2 p3 hc_45) gw_7847cc4d rfl rfl ⟨Nat.le_of_ble_eq_true rfl, Nat.le_of_ble_eq_true rfl⟩ (ci := 0) rfl rfl (k0 := 0) rfl rfl hl.1 rfl (Nat.le_of_ble_eq_true rfl) d_Or_factorHolds_45 ⟨Nat.zero_le _, Nat.zero_le _⟩ hP hD hS hA [0, 1, 2, 3, 4, 5, 6, 7, 8, 9, 10, 11, 12, 13, 14, 15] [] [0, 1, 2, 3, 4, 5, 6, 7, 8, 9, 10, 11, 12, 13, 14, 15] rfl rfl (by decide) (by decide) rfl (by decide) (by decide) (fun H locs hP hD hS => ?_)
      have eo0 := Option.some.inj hM
      subst eo0
      exact rt_z S hr hlocks hP hD hS d_Or_factorHolds_48
  · have hM := itT hM c_15
    refine lv_aload_n hx hb d_Or_factorHolds_18 rfl (lv_at hl 1 rfl) ?_
    refine va_get (D := D) (ci := 0) (v := .ref qP) (C := R_Or) (T := F_Or) (N := 11) hx hb hts i_Or hown hK hP 0 rfl rfl 2 (by decide) (hts _ iw_4820ce3a) (fun _ h9 => h9) rfl d_Or_factorHolds_19 ?_
    refine va_getN (D := D) (ci := 3) (v := .int psz) (C := R_Parts) (T := F_Parts) (N := 4) hx hb hts i_Parts hown hK hP 6 rfl rfl 3 (by decide) (va_Nw.use rfl (hN _ nl_7ebd0f4f)) (fun _ h9 => h9) rfl d_Or_factorHolds_22 ?_
    refine lv_if_ne (tgt := 32) hx hb d_Or_factorHolds_25 (by decide) (fun c_25 => ?_) (fun c_25 => ?_)
    · have hM := itF hM c_25
      refine lv_iconst (v := 0) hx hb d_Or_factorHolds_32 (by decide) ?_
      have eo0 := Option.some.inj hM
      subst eo0
      exact rt_z S hr hlocks hP hD hS d_Or_factorHolds_33
    · have hM := itT hM c_25
      refine lv_iconst (v := 1) hx hb d_Or_factorHolds_28 (by decide) ?_
      refine lv_goto (tgt := 33) hx hb d_Or_factorHolds_29 (by decide) ?_
      have eo0 := Option.some.inj hM
      subst eo0
      exact rt_z S hr hlocks hP hD hS d_Or_factorHolds_33
def rm_Or_keepAnswer : Room := { frames := 0, cells := 0, slots := 0, locals := 0 }
set_option maxHeartbeats 4000000 in
set_option maxRecDepth 100000 in
theorem w_Or_keepAnswer_30 {p : Program} {l : Launch} {e : Env} {s : State} {m : MethodId} {args : Array Value} {below : List Frame} {meth : Method} {c : Code} {D : va_G} {cT : Nat → ClassId} {A : Nat → Prop} (S : CallFix p m c b_Or_keepAnswer 3 s args TB R_Or) (hr : meth.sig.returnType = none) (hlocks : meth.locks = false) (hE : EN D cT s) (hA : ∀ q, s.heap.size ≤ q → A q) {qO : Nat} {qOa : Nat} {qT : Nat} {qTs : Nat} {qR : Nat} {qRs : Nat} {qP : Nat} {qPc : Nat} {qPl : Nat} {qPv : Nat} {qL : Nat} {qLj : Nat} {qF : Nat} {qFk : Nat} {qFf : Nat} {qFl : Nat} {done : Int32} {brd : Int32} {tup : Int32} {tdn : Int32} {tlen : Int32} {tpl : Int32} {tsg : Nat → Int32} {rlen : Int32} {rsz : Int32} {rsg : Nat → Int32} {psz : Int32} {pcd : Nat → Int32} {pld : Nat → Int32} {pct : Nat → Int64} {lpr : Int32} {lful : Bool} {ljn : Nat → Int32} {fsz : Int32} {fkd : Nat → Int32} {ffr : Nat → Int32} {fto : Nat → Int32} {p1 : Int32} {p2 : Bool} {o_askd : Int32} {o_answ : Nat → Int32} : ∀ (s1 : Int32) (s2 : Int32) (s3 : Bool) (askd : Int32) (answ : Nat → Int32), k_Or_keepAnswer_30 p1 p2  s1 s2 s3 askd answ = some (o_askd, o_answ) → ∀ (H : Heap) (locs : List Loc) (ls : Array Slot), va_P D classes [(qO, .inr (0, [.ref qT, .ref qR, .ref qP, .ref qL, .ref qF, .int done, .int brd, .int tup, .int tdn, .ref qOa, .int askd])), (qOa, .inl (cT 0, 149, .inl answ)), (qT, .inr (1, [.ref qTs, .int tlen, .int tpl])), (qTs, .inl (cT 2, 300, .inl tsg)), (qR, .inr (2, [.ref qRs, .int rlen, .int rsz])), (qRs, .inl (cT 2, 300, .inl rsg)), (qP, .inr (3, [.ref qPc, .ref qPl, .ref qPv, .int psz])), (qPc, .inl (cT 0, 12, .inl pcd)), (qPl, .inl (cT 0, 12, .inl pld)), (qPv, .inl (cT 1, 12, .inr (.inl pct))), (qL, .inr (4, [.ref qLj, .int lpr, .int (bI lful)])), (qLj, .inl (cT 0, 10, .inl ljn)), (qF, .inr (5, [.ref qFk, .ref qFf, .ref qFl, .int fsz])), (qFk, .inl (cT 0, 20, .inl fkd)), (qFf, .inl (cT 0, 20, .inl ffr)), (qFl, .inl (cT 0, 20, .inl fto))] H → va_D A [(qO, .inr (0, [.ref qT, .ref qR, .ref qP, .ref qL, .ref qF, .int done, .int brd, .int tup, .int tdn, .ref qOa, .int askd])), (qOa, .inl (cT 0, 149, .inl answ)), (qT, .inr (1, [.ref qTs, .int tlen, .int tpl])), (qTs, .inl (cT 2, 300, .inl tsg)), (qR, .inr (2, [.ref qRs, .int rlen, .int rsz])), (qRs, .inl (cT 2, 300, .inl rsg)), (qP, .inr (3, [.ref qPc, .ref qPl, .ref qPv, .int psz])), (qPc, .inl (cT 0, 12, .inl pcd)), (qPl, .inl (cT 0, 12, .inl pld)), (qPv, .inl (cT 1, 12, .inr (.inl pct))), (qL, .inr (4, [.ref qLj, .int lpr, .int (bI lful)])), (qLj, .inl (cT 0, 10, .inl ljn)), (qF, .inr (5, [.ref qFk, .ref qFf, .ref qFl, .int fsz])), (qFk, .inl (cT 0, 20, .inl fkd)), (qFf, .inl (cT 0, 20, .inl ffr)), (qFl, .inl (cT 0, 20, .inl fto))] → va_S A s.heap H locs → lv_has ls 3 [(0, .ref qO)] → W p l e (headSpec (WS y_Or_keepAnswer b_Or_keepAnswer 3 none) rm_Or_keepAnswer).room s m args below meth c H locs 0 0 (MQ below (qW D A [(qO, .inr (0, [.ref qT, .ref qR, .ref qP, .ref qL, .ref qF, .int done, .int brd, .int tup, .int tdn, .ref qOa, .int o_askd])), (qOa, .inl (cT 0, 149, .inl o_answ)), (qT, .inr (1, [.ref qTs, .int tlen, .int tpl])), (qTs, .inl (cT 2, 300, .inl tsg)), (qR, .inr (2, [.ref qRs, .int rlen, .int rsz])), (qRs, .inl (cT 2, 300, .inl rsg)), (qP, .inr (3, [.ref qPc, .ref qPl, .ref qPv, .int psz])), (qPc, .inl (cT 0, 12, .inl pcd)), (qPl, .inl (cT 0, 12, .inl pld)), (qPv, .inl (cT 1, 12, .inr (.inl pct))), (qL, .inr (4, [.ref qLj, .int lpr, .int (bI lful)])), (qLj, .inl (cT 0, 10, .inl ljn)), (qF, .inr (5, [.ref qFk, .ref qFf, .ref qFl, .int fsz])), (qFk, .inl (cT 0, 20, .inl fkd)), (qFf, .inl (cT 0, 20, .inl ffr)), (qFl, .inl (cT 0, 20, .inl fto))] none) args s 0 0 A) (F0 m 30 ls [.int (bI s3), .int s2, .int s1, .ref qOa]) := by
  obtain ⟨hx, hb, hml, hown, hts⟩ := id S
  have hK := hE.1
  have hN := hE.2
  intro s1 s2 s3 askd answ hM H locs ls hP hD hS hl
  unfold k_Or_keepAnswer_30 at hM
  refine lv_iadd hx hb d_Or_keepAnswer_30 ?_
  obtain ⟨hin_31, hM⟩ := ixT hM
  refine va_iast hx hb hK hP hD hS 1 0 rfl rfl hin_31 d_Or_keepAnswer_31 (fun H locs hP hD hS => ?_)
  have hP : va_P D classes [(qO, .inr (0, [.ref qT, .ref qR, .ref qP, .ref qL, .ref qF, .int done, .int brd, .int tup, .int tdn, .ref qOa, .int askd])), (qOa, .inl (cT 0, 149, .inl (upd answ s1.toNatClampNeg (s2 + (bI s3))))), (qT, .inr (1, [.ref qTs, .int tlen, .int tpl])), (qTs, .inl (cT 2, 300, .inl tsg)), (qR, .inr (2, [.ref qRs, .int rlen, .int rsz])), (qRs, .inl (cT 2, 300, .inl rsg)), (qP, .inr (3, [.ref qPc, .ref qPl, .ref qPv, .int psz])), (qPc, .inl (cT 0, 12, .inl pcd)), (qPl, .inl (cT 0, 12, .inl pld)), (qPv, .inl (cT 1, 12, .inr (.inl pct))), (qL, .inr (4, [.ref qLj, .int lpr, .int (bI lful)])), (qLj, .inl (cT 0, 10, .inl ljn)), (qF, .inr (5, [.ref qFk, .ref qFf, .ref qFl, .int fsz])), (qFk, .inl (cT 0, 20, .inl fkd)), (qFf, .inl (cT 0, 20, .inl ffr)), (qFl, .inl (cT 0, 20, .inl fto))] H := hP
  have hD : va_D A [(qO, .inr (0, [.ref qT, .ref qR, .ref qP, .ref qL, .ref qF, .int done, .int brd, .int tup, .int tdn, .ref qOa, .int askd])), (qOa, .inl (cT 0, 149, .inl (upd answ s1.toNatClampNeg (s2 + (bI s3))))), (qT, .inr (1, [.ref qTs, .int tlen, .int tpl])), (qTs, .inl (cT 2, 300, .inl tsg)), (qR, .inr (2, [.ref qRs, .int rlen, .int rsz])), (qRs, .inl (cT 2, 300, .inl rsg)), (qP, .inr (3, [.ref qPc, .ref qPl, .ref qPv, .int psz])), (qPc, .inl (cT 0, 12, .inl pcd)), (qPl, .inl (cT 0, 12, .inl pld)), (qPv, .inl (cT 1, 12, .inr (.inl pct))), (qL, .inr (4, [.ref qLj, .int lpr, .int (bI lful)])), (qLj, .inl (cT 0, 10, .inl ljn)), (qF, .inr (5, [.ref qFk, .ref qFf, .ref qFl, .int fsz])), (qFk, .inl (cT 0, 20, .inl fkd)), (qFf, .inl (cT 0, 20, .inl ffr)), (qFl, .inl (cT 0, 20, .inl fto))] := hD
  refine lv_aload_n hx hb d_Or_keepAnswer_32 rfl (lv_at hl 0 rfl) ?_
  refine lv_dup hx hb d_Or_keepAnswer_33 rfl ?_
  refine va_get (D := D) (ci := 0) (v := .int askd) (C := R_Or) (T := F_Or) (N := 11) hx hb hts i_Or hown hK hP 0 rfl rfl 10 (by decide) (hts _ iw_93c980ea) (fun _ h9 => h9) rfl d_Or_keepAnswer_34 ?_
  refine lv_iconst (v := 1) hx hb d_Or_keepAnswer_37 (by decide) ?_
  refine lv_iadd hx hb d_Or_keepAnswer_38 ?_
  refine va_put (D := D) (ci := 0) (v := .int (askd + 1)) (ty := .int) (C := R_Or) (T := F_Or) (N := 11) hx hb hts i_Or t_Or t_Or_ok n_Or hown hK hP hD hS 0 rfl rfl 10 (by decide) (hts _ iw_93c980ea) (fun _ h9 => h9) rfl (by decide +kernel) rfl rfl (Nat.le_of_ble_eq_true rfl) d_Or_keepAnswer_39 (fun H locs hP hD hS => ?_)
  have hP : va_P D classes [(qO, .inr (0, [.ref qT, .ref qR, .ref qP, .ref qL, .ref qF, .int done, .int brd, .int tup, .int tdn, .ref qOa, .int (askd + 1)])), (qOa, .inl (cT 0, 149, .inl (upd answ s1.toNatClampNeg (s2 + (bI s3))))), (qT, .inr (1, [.ref qTs, .int tlen, .int tpl])), (qTs, .inl (cT 2, 300, .inl tsg)), (qR, .inr (2, [.ref qRs, .int rlen, .int rsz])), (qRs, .inl (cT 2, 300, .inl rsg)), (qP, .inr (3, [.ref qPc, .ref qPl, .ref qPv, .int psz])), (qPc, .inl (cT 0, 12, .inl pcd)), (qPl, .inl (cT 0, 12, .inl pld)), (qPv, .inl (cT 1, 12, .inr (.inl pct))), (qL, .inr (4, [.ref qLj, .int lpr, .int (bI lful)])), (qLj, .inl (cT 0, 10, .inl ljn)), (qF, .inr (5, [.ref qFk, .ref qFf, .ref qFl, .int fsz])), (qFk, .inl (cT 0, 20, .inl fkd)), (qFf, .inl (cT 0, 20, .inl ffr)), (qFl, .inl (cT 0, 20, .inl fto))] H := hP
  have hD : va_D A [(qO, .inr (0, [.ref qT, .ref qR, .ref qP, .ref qL, .ref qF, .int done, .int brd, .int tup, .int tdn, .ref qOa, .int (askd + 1)])), (qOa, .inl (cT 0, 149, .inl (upd answ s1.toNatClampNeg (s2 + (bI s3))))), (qT, .inr (1, [.ref qTs, .int tlen, .int tpl])), (qTs, .inl (cT 2, 300, .inl tsg)), (qR, .inr (2, [.ref qRs, .int rlen, .int rsz])), (qRs, .inl (cT 2, 300, .inl rsg)), (qP, .inr (3, [.ref qPc, .ref qPl, .ref qPv, .int psz])), (qPc, .inl (cT 0, 12, .inl pcd)), (qPl, .inl (cT 0, 12, .inl pld)), (qPv, .inl (cT 1, 12, .inr (.inl pct))), (qL, .inr (4, [.ref qLj, .int lpr, .int (bI lful)])), (qLj, .inl (cT 0, 10, .inl ljn)), (qF, .inr (5, [.ref qFk, .ref qFf, .ref qFl, .int fsz])), (qFk, .inl (cT 0, 20, .inl fkd)), (qFf, .inl (cT 0, 20, .inl ffr)), (qFl, .inl (cT 0, 20, .inl fto))] := hD
  obtain ⟨eo0, eo1⟩ := so2T hM
  subst eo0
  subst eo1
  exact rt_v S hr hlocks hP hD hS d_Or_keepAnswer_42
set_option maxHeartbeats 4000000 in
set_option maxRecDepth 100000 in
theorem c_Or_keepAnswer (l : Launch) (D : va_G) (cT : Nat → ClassId) (qO : Nat) (qOa : Nat) (qT : Nat) (qTs : Nat) (qR : Nat) (qRs : Nat) (qP : Nat) (qPc : Nat) (qPl : Nat) (qPv : Nat) (qL : Nat) (qLj : Nat) (qF : Nat) (qFk : Nat) (qFf : Nat) (qFl : Nat) (done : Int32) (brd : Int32) (tup : Int32) (tdn : Int32) (askd : Int32) (answ : Nat → Int32) (tlen : Int32) (tpl : Int32) (tsg : Nat → Int32) (rlen : Int32) (rsz : Int32) (rsg : Nat → Int32) (psz : Int32) (pcd : Nat → Int32) (pld : Nat → Int32) (pct : Nat → Int64) (lpr : Int32) (lful : Bool) (ljn : Nat → Int32) (fsz : Int32) (fkd : Nat → Int32) (ffr : Nat → Int32) (fto : Nat → Int32) (p1 : Int32) (p2 : Bool) {o_askd : Int32} {o_answ : Nat → Int32} (hM : m_Or_keepAnswer p1 p2 askd answ = some (o_askd, o_answ)) : Ct l y_Or_keepAnswer (WS y_Or_keepAnswer b_Or_keepAnswer 3 none) rm_Or_keepAnswer D cT [.ref qO, .int p1, .int (bI p2)] [(qO, .inr (0, [.ref qT, .ref qR, .ref qP, .ref qL, .ref qF, .int done, .int brd, .int tup, .int tdn, .ref qOa, .int askd])), (qOa, .inl (cT 0, 149, .inl answ)), (qT, .inr (1, [.ref qTs, .int tlen, .int tpl])), (qTs, .inl (cT 2, 300, .inl tsg)), (qR, .inr (2, [.ref qRs, .int rlen, .int rsz])), (qRs, .inl (cT 2, 300, .inl rsg)), (qP, .inr (3, [.ref qPc, .ref qPl, .ref qPv, .int psz])), (qPc, .inl (cT 0, 12, .inl pcd)), (qPl, .inl (cT 0, 12, .inl pld)), (qPv, .inl (cT 1, 12, .inr (.inl pct))), (qL, .inr (4, [.ref qLj, .int lpr, .int (bI lful)])), (qLj, .inl (cT 0, 10, .inl ljn)), (qF, .inr (5, [.ref qFk, .ref qFf, .ref qFl, .int fsz])), (qFk, .inl (cT 0, 20, .inl fkd)), (qFf, .inl (cT 0, 20, .inl ffr)), (qFl, .inl (cT 0, 20, .inl fto))] none [(qO, .inr (0, [.ref qT, .ref qR, .ref qP, .ref qL, .ref qF, .int done, .int brd, .int tup, .int tdn, .ref qOa, .int o_askd])), (qOa, .inl (cT 0, 149, .inl o_answ)), (qT, .inr (1, [.ref qTs, .int tlen, .int tpl])), (qTs, .inl (cT 2, 300, .inl tsg)), (qR, .inr (2, [.ref qRs, .int rlen, .int rsz])), (qRs, .inl (cT 2, 300, .inl rsg)), (qP, .inr (3, [.ref qPc, .ref qPl, .ref qPv, .int psz])), (qPc, .inl (cT 0, 12, .inl pcd)), (qPl, .inl (cT 0, 12, .inl pld)), (qPv, .inl (cT 1, 12, .inr (.inl pct))), (qL, .inr (4, [.ref qLj, .int lpr, .int (bI lful)])), (qLj, .inl (cT 0, 10, .inl ljn)), (qF, .inr (5, [.ref qFk, .ref qFf, .ref qFl, .int fsz])), (qFk, .inl (cT 0, 20, .inl fkd)), (qFf, .inl (cT 0, 20, .inl ffr)), (qFl, .inl (cT 0, 20, .inl fto))] 0 0 := by
  intro sz
  refine Met.ofW (cc := b_Or_keepAnswer) (maxL := 3) (ret := none) (by decide) rfl ?_
  intro p e s m args below meth c s₁ B hml hv
  obtain ⟨rfl, hsz, hP, hE, hD0⟩ := hv
  have hx := B.exec
  have hb := B.bytes
  have hr := B.returns
  have hts : ∀ w ∈ TB, w.before _ s = true := fun w h => atoms_spec (ws := WS y_Or_keepAnswer b_Or_keepAnswer 3 none) B.pre w (List.mem_cons_of_mem _ h)
  have hown : s.vm.findClass R_Or = some m.cls := findClass_of_methodNamed B.named
  have hlocks := B.notSynchronized
  have hK := hE.1
  have hN := hE.2
  subst hsz
  have hD := hD0.self (sz := s.heap.size)
  generalize hAe : va_A [(qO, .inr (0, [.ref qT, .ref qR, .ref qP, .ref qL, .ref qF, .int done, .int brd, .int tup, .int tdn, .ref qOa, .int askd])), (qOa, .inl (cT 0, 149, .inl answ)), (qT, .inr (1, [.ref qTs, .int tlen, .int tpl])), (qTs, .inl (cT 2, 300, .inl tsg)), (qR, .inr (2, [.ref qRs, .int rlen, .int rsz])), (qRs, .inl (cT 2, 300, .inl rsg)), (qP, .inr (3, [.ref qPc, .ref qPl, .ref qPv, .int psz])), (qPc, .inl (cT 0, 12, .inl pcd)), (qPl, .inl (cT 0, 12, .inl pld)), (qPv, .inl (cT 1, 12, .inr (.inl pct))), (qL, .inr (4, [.ref qLj, .int lpr, .int (bI lful)])), (qLj, .inl (cT 0, 10, .inl ljn)), (qF, .inr (5, [.ref qFk, .ref qFf, .ref qFl, .int fsz])), (qFk, .inl (cT 0, 20, .inl fkd)), (qFf, .inl (cT 0, 20, .inl ffr)), (qFl, .inl (cT 0, 20, .inl fto))] s.heap.size = A at hD ⊢
  have hA : ∀ q : Nat, s.heap.size ≤ q → A q := fun q h => by rw [← hAe]; exact Or.inr h
  have hS : va_S A s.heap s.heap [] := va_S.rf
  have hl := lv_entry ([.ref qO, .int p1, .int (bI p2)]) (n := 3) (Nat.le_of_ble_eq_true rfl)
  rw [lg_entry_eq]
  generalize (lg_sl ([.ref qO, .int p1, .int (bI p2)]) ++ List.replicate (3 - (lg_sl ([.ref qO, .int p1, .int (bI p2)])).length) Slot.unset).toArray = ls at hl ⊢
  have hl : lv_has ls 3 [(0, .ref qO), (1, .int p1), (2, .int (bI p2))] := hl
  have S : CallFix p m c b_Or_keepAnswer 3 s _ TB R_Or := ⟨hx, hb, hml, hown, hts⟩
  unfold m_Or_keepAnswer at hM
  refine lv_aload_n hx hb d_Or_keepAnswer_0 rfl (lv_at hl 0 rfl) ?_
  refine va_get (D := D) (ci := 0) (v := .int askd) (C := R_Or) (T := F_Or) (N := 11) hx hb hts i_Or hown hK hP 0 rfl rfl 10 (by decide) (hts _ iw_93c980ea) (fun _ h9 => h9) rfl d_Or_keepAnswer_1 ?_
  refine lv_sipush (v := 149) hx hb d_Or_keepAnswer_4 (by decide) ?_
  refine lv_icmp_ge (tgt := 42) hx hb d_Or_keepAnswer_7 (by decide) (fun c_7 => ?_) (fun c_7 => ?_)
  · have hM := itT hM c_7
    obtain ⟨eo0, eo1⟩ := so2T hM
    subst eo0
    subst eo1
    exact rt_v S hr hlocks hP hD hS d_Or_keepAnswer_42
  · have hM := itF hM c_7
    refine lv_aload_n hx hb d_Or_keepAnswer_10 rfl (lv_at hl 0 rfl) ?_
    refine va_get (D := D) (ci := 0) (v := .ref qOa) (C := R_Or) (T := F_Or) (N := 11) hx hb hts i_Or hown hK hP 0 rfl rfl 9 (by decide) (hts _ iw_9424b9ac) (fun _ h9 => h9) rfl d_Or_keepAnswer_11 ?_
    refine lv_aload_n hx hb d_Or_keepAnswer_14 rfl (lv_at hl 0 rfl) ?_
    refine va_get (D := D) (ci := 0) (v := .int askd) (C := R_Or) (T := F_Or) (N := 11) hx hb hts i_Or hown hK hP 0 rfl rfl 10 (by decide) (hts _ iw_93c980ea) (fun _ h9 => h9) rfl d_Or_keepAnswer_15 ?_
    refine lv_iconst (v := 2) hx hb d_Or_keepAnswer_18 (by decide) ?_
    refine lv_iload_n hx hb d_Or_keepAnswer_19 rfl (lv_at hl 1 rfl) ?_
    refine lv_imul hx hb d_Or_keepAnswer_20 ?_
    refine lv_iload_n hx hb d_Or_keepAnswer_21 rfl (lv_at hl 2 rfl) ?_
    refine lv_if_eq (tgt := 29) hx hb d_Or_keepAnswer_22 (by decide) (fun c_22 => ?_) (fun c_22 => ?_)
    · have hM := itT hM c_22
      refine lv_iconst (v := 0) hx hb d_Or_keepAnswer_29 (by decide) ?_
      exact w_Or_keepAnswer_30 S hr hlocks hE hA  askd (2 * p1) false askd answ hM _ _ _ hP hD hS (lv_sub hl [0] rfl)
    · have hM := itF hM c_22
      refine lv_iconst (v := 1) hx hb d_Or_keepAnswer_25 (by decide) ?_
      refine lv_goto (tgt := 30) hx hb d_Or_keepAnswer_26 (by decide) ?_
      exact w_Or_keepAnswer_30 S hr hlocks hE hA  askd (2 * p1) true askd answ hM _ _ _ hP hD hS (lv_sub hl [0] rfl)
def rm_Or_ruleHolds : Room := { frames := 4, cells := 0, slots := 0, locals := 102 }
set_option maxHeartbeats 4000000 in
set_option maxRecDepth 100000 in
theorem w_Or_ruleHolds_91 {p : Program} {l : Launch} {e : Env} {s : State} {m : MethodId} {args : Array Value} {below : List Frame} {meth : Method} {c : Code} {D : va_G} {cT : Nat → ClassId} {A : Nat → Prop} (S : CallFix p m c b_Or_ruleHolds 10 s args TB R_Or) (hr : meth.sig.returnType = (some .boolean)) (hlocks : meth.locks = false) (hE : EN D cT s) (hA : ∀ q, s.heap.size ≤ q → A q) {qO : Nat} {qOa : Nat} {qT : Nat} {qTs : Nat} {qR : Nat} {qRs : Nat} {qP : Nat} {qPc : Nat} {qPl : Nat} {qPv : Nat} {qL : Nat} {qLj : Nat} {qF : Nat} {qFk : Nat} {qFf : Nat} {qFl : Nat} {done : Int32} {brd : Int32} {tup : Int32} {tdn : Int32} {tlen : Int32} {tpl : Int32} {tsg : Nat → Int32} {rlen : Int32} {rsz : Int32} {rsg : Nat → Int32} {psz : Int32} {pcd : Nat → Int32} {pld : Nat → Int32} {pct : Nat → Int64} {lpr : Int32} {lful : Bool} {ljn : Nat → Int32} {fsz : Int32} {fkd : Nat → Int32} {ffr : Nat → Int32} {fto : Nat → Int32} {p1 : Int32} {p2 : Int32} {p3 : Int64} {rr : Bool} {o_askd : Int32} {o_answ : Nat → Int32} {Ko17 : Bool → Bool → Int32 → Int32 → Int32 → (Nat → Int32) → Option (Bool × Int32 × (Nat → Int32))} (hKo17 : ∀ (x5 : Bool) (x6 : Bool) (x7 : Int32) (x8 : Int32) (askd : Int32) (answ : Nat → Int32), Ko17 x5 x6 x7 x8 askd answ = some (rr, o_askd, o_answ) → ∀ (H : Heap) (locs : List Loc) (ls : Array Slot), va_P D classes [(qO, .inr (0, [.ref qT, .ref qR, .ref qP, .ref qL, .ref qF, .int done, .int brd, .int tup, .int tdn, .ref qOa, .int askd])), (qOa, .inl (cT 0, 149, .inl answ)), (qT, .inr (1, [.ref qTs, .int tlen, .int tpl])), (qTs, .inl (cT 2, 300, .inl tsg)), (qR, .inr (2, [.ref qRs, .int rlen, .int rsz])), (qRs, .inl (cT 2, 300, .inl rsg)), (qP, .inr (3, [.ref qPc, .ref qPl, .ref qPv, .int psz])), (qPc, .inl (cT 0, 12, .inl pcd)), (qPl, .inl (cT 0, 12, .inl pld)), (qPv, .inl (cT 1, 12, .inr (.inl pct))), (qL, .inr (4, [.ref qLj, .int lpr, .int (bI lful)])), (qLj, .inl (cT 0, 10, .inl ljn)), (qF, .inr (5, [.ref qFk, .ref qFf, .ref qFl, .int fsz])), (qFk, .inl (cT 0, 20, .inl fkd)), (qFf, .inl (cT 0, 20, .inl ffr)), (qFl, .inl (cT 0, 20, .inl fto))] H → va_D A [(qO, .inr (0, [.ref qT, .ref qR, .ref qP, .ref qL, .ref qF, .int done, .int brd, .int tup, .int tdn, .ref qOa, .int askd])), (qOa, .inl (cT 0, 149, .inl answ)), (qT, .inr (1, [.ref qTs, .int tlen, .int tpl])), (qTs, .inl (cT 2, 300, .inl tsg)), (qR, .inr (2, [.ref qRs, .int rlen, .int rsz])), (qRs, .inl (cT 2, 300, .inl rsg)), (qP, .inr (3, [.ref qPc, .ref qPl, .ref qPv, .int psz])), (qPc, .inl (cT 0, 12, .inl pcd)), (qPl, .inl (cT 0, 12, .inl pld)), (qPv, .inl (cT 1, 12, .inr (.inl pct))), (qL, .inr (4, [.ref qLj, .int lpr, .int (bI lful)])), (qLj, .inl (cT 0, 10, .inl ljn)), (qF, .inr (5, [.ref qFk, .ref qFf, .ref qFl, .int fsz])), (qFk, .inl (cT 0, 20, .inl fkd)), (qFf, .inl (cT 0, 20, .inl ffr)), (qFl, .inl (cT 0, 20, .inl fto))] → va_S A s.heap H locs → lv_has ls 10 [(0, .ref qO), (1, .int p1), (2, .int p2), (3, .long p3), (5, .int (bI x5)), (6, .int (bI x6)), (7, .int x7), (8, .int x8)] → W p l e (headSpec (WS y_Or_ruleHolds b_Or_ruleHolds 10 (some .boolean)) rm_Or_ruleHolds).room s m args below meth c H locs 0 0 (MQ below (qW D A [(qO, .inr (0, [.ref qT, .ref qR, .ref qP, .ref qL, .ref qF, .int done, .int brd, .int tup, .int tdn, .ref qOa, .int o_askd])), (qOa, .inl (cT 0, 149, .inl o_answ)), (qT, .inr (1, [.ref qTs, .int tlen, .int tpl])), (qTs, .inl (cT 2, 300, .inl tsg)), (qR, .inr (2, [.ref qRs, .int rlen, .int rsz])), (qRs, .inl (cT 2, 300, .inl rsg)), (qP, .inr (3, [.ref qPc, .ref qPl, .ref qPv, .int psz])), (qPc, .inl (cT 0, 12, .inl pcd)), (qPl, .inl (cT 0, 12, .inl pld)), (qPv, .inl (cT 1, 12, .inr (.inl pct))), (qL, .inr (4, [.ref qLj, .int lpr, .int (bI lful)])), (qLj, .inl (cT 0, 10, .inl ljn)), (qF, .inr (5, [.ref qFk, .ref qFf, .ref qFl, .int fsz])), (qFk, .inl (cT 0, 20, .inl fkd)), (qFf, .inl (cT 0, 20, .inl ffr)), (qFl, .inl (cT 0, 20, .inl fto))] (some (.int (bI rr)))) args s 0 0 A) (F0 m 17 ls [])) : ∀ (x5 : Bool) (x6 : Bool) (x7 : Int32) (x8 : Int32) (x9 : Int32) (askd : Int32) (answ : Nat → Int32), k_Or_ruleHolds_91 done tup tdn rlen rsg psz pcd pld pct lful ljn p1 p2 p3 Ko17 x5 x6 x7 x8 x9 askd answ = some (rr, o_askd, o_answ) → ∀ (H : Heap) (locs : List Loc) (ls : Array Slot), va_P D classes [(qO, .inr (0, [.ref qT, .ref qR, .ref qP, .ref qL, .ref qF, .int done, .int brd, .int tup, .int tdn, .ref qOa, .int askd])), (qOa, .inl (cT 0, 149, .inl answ)), (qT, .inr (1, [.ref qTs, .int tlen, .int tpl])), (qTs, .inl (cT 2, 300, .inl tsg)), (qR, .inr (2, [.ref qRs, .int rlen, .int rsz])), (qRs, .inl (cT 2, 300, .inl rsg)), (qP, .inr (3, [.ref qPc, .ref qPl, .ref qPv, .int psz])), (qPc, .inl (cT 0, 12, .inl pcd)), (qPl, .inl (cT 0, 12, .inl pld)), (qPv, .inl (cT 1, 12, .inr (.inl pct))), (qL, .inr (4, [.ref qLj, .int lpr, .int (bI lful)])), (qLj, .inl (cT 0, 10, .inl ljn)), (qF, .inr (5, [.ref qFk, .ref qFf, .ref qFl, .int fsz])), (qFk, .inl (cT 0, 20, .inl fkd)), (qFf, .inl (cT 0, 20, .inl ffr)), (qFl, .inl (cT 0, 20, .inl fto))] H → va_D A [(qO, .inr (0, [.ref qT, .ref qR, .ref qP, .ref qL, .ref qF, .int done, .int brd, .int tup, .int tdn, .ref qOa, .int askd])), (qOa, .inl (cT 0, 149, .inl answ)), (qT, .inr (1, [.ref qTs, .int tlen, .int tpl])), (qTs, .inl (cT 2, 300, .inl tsg)), (qR, .inr (2, [.ref qRs, .int rlen, .int rsz])), (qRs, .inl (cT 2, 300, .inl rsg)), (qP, .inr (3, [.ref qPc, .ref qPl, .ref qPv, .int psz])), (qPc, .inl (cT 0, 12, .inl pcd)), (qPl, .inl (cT 0, 12, .inl pld)), (qPv, .inl (cT 1, 12, .inr (.inl pct))), (qL, .inr (4, [.ref qLj, .int lpr, .int (bI lful)])), (qLj, .inl (cT 0, 10, .inl ljn)), (qF, .inr (5, [.ref qFk, .ref qFf, .ref qFl, .int fsz])), (qFk, .inl (cT 0, 20, .inl fkd)), (qFf, .inl (cT 0, 20, .inl ffr)), (qFl, .inl (cT 0, 20, .inl fto))] → va_S A s.heap H locs → lv_has ls 10 [(0, .ref qO), (1, .int p1), (2, .int p2), (3, .long p3), (5, .int (bI x5)), (6, .int (bI x6)), (7, .int x7), (8, .int x8), (9, .int x9)] → W p l e (headSpec (WS y_Or_ruleHolds b_Or_ruleHolds 10 (some .boolean)) rm_Or_ruleHolds).room s m args below meth c H locs 0 0 (MQ below (qW D A [(qO, .inr (0, [.ref qT, .ref qR, .ref qP, .ref qL, .ref qF, .int done, .int brd, .int tup, .int tdn, .ref qOa, .int o_askd])), (qOa, .inl (cT 0, 149, .inl o_answ)), (qT, .inr (1, [.ref qTs, .int tlen, .int tpl])), (qTs, .inl (cT 2, 300, .inl tsg)), (qR, .inr (2, [.ref qRs, .int rlen, .int rsz])), (qRs, .inl (cT 2, 300, .inl rsg)), (qP, .inr (3, [.ref qPc, .ref qPl, .ref qPv, .int psz])), (qPc, .inl (cT 0, 12, .inl pcd)), (qPl, .inl (cT 0, 12, .inl pld)), (qPv, .inl (cT 1, 12, .inr (.inl pct))), (qL, .inr (4, [.ref qLj, .int lpr, .int (bI lful)])), (qLj, .inl (cT 0, 10, .inl ljn)), (qF, .inr (5, [.ref qFk, .ref qFf, .ref qFl, .int fsz])), (qFk, .inl (cT 0, 20, .inl fkd)), (qFf, .inl (cT 0, 20, .inl ffr)), (qFl, .inl (cT 0, 20, .inl fto))] (some (.int (bI rr)))) args s 0 0 A) (F0 m 91 ls []) := by
  obtain ⟨hx, hb, hml, hown, hts⟩ := id S
  have hK := hE.1
  have hN := hE.2
  intro x5 x6 x7 x8 x9 askd answ hM H locs ls hP hD hS hl
  unfold k_Or_ruleHolds_91 at hM
  refine lv_iload hx hb d_Or_ruleHolds_91 (lv_at hl 8 rfl) ?_
  refine lv_bipush (v := 40) hx hb d_Or_ruleHolds_93 (by decide) ?_
  refine lv_icmp_ne (tgt := 104) hx hb d_Or_ruleHolds_95 (by decide) (fun c_95 => ?_) (fun c_95 => ?_)
  · have hM := itF hM c_95
    refine lv_iload hx hb d_Or_ruleHolds_104 (lv_at hl 8 rfl) ?_
    refine lv_bipush (v := 41) hx hb d_Or_ruleHolds_106 (by decide) ?_
    refine lv_icmp_ne (tgt := 175) hx hb d_Or_ruleHolds_108 (by decide) (fun c_108 => ?_) (fun c_108 => ?_)
    · have hM := itF hM c_108
      refine lv_iinc (v := x8 + 1) (lv' := [(8, .int (x8 + 1)), (0, .ref qO), (1, .int p1), (2, .int p2), (3, .long p3), (5, .int (bI x5)), (6, .int (bI x6)), (7, .int x7), (9, .int x9)]) hx hb d_Or_ruleHolds_175 hl (k := 7) rfl rfl (by decide) rfl (fun ls hl => ?_)
      refine lv_goto (tgt := 17) hx hb d_Or_ruleHolds_178 (by decide) ?_
      exact hKo17 x5 x6 x7 (x8 + 1) askd answ hM _ _ _ hP hD hS (lv_sub hl [1, 2, 3, 4, 5, 6, 7, 0] rfl)
    · have hM := itT hM c_108
      refine lv_iinc (v := x7 + (-1)) (lv' := [(7, .int (x7 + (-1))), (0, .ref qO), (1, .int p1), (2, .int p2), (3, .long p3), (5, .int (bI x5)), (6, .int (bI x6)), (8, .int x8), (9, .int x9)]) hx hb d_Or_ruleHolds_111 hl (k := 6) rfl rfl (by decide) rfl (fun ls hl => ?_)
      refine lv_goto (tgt := 175) hx hb d_Or_ruleHolds_114 (by decide) ?_
      refine lv_iinc (v := x8 + 1) (lv' := [(8, .int (x8 + 1)), (7, .int (x7 + (-1))), (0, .ref qO), (1, .int p1), (2, .int p2), (3, .long p3), (5, .int (bI x5)), (6, .int (bI x6)), (9, .int x9)]) hx hb d_Or_ruleHolds_175 hl (k := 7) rfl rfl (by decide) rfl (fun ls hl => ?_)
      refine lv_goto (tgt := 17) hx hb d_Or_ruleHolds_178 (by decide) ?_
      exact hKo17 x5 x6 (x7 + (-1)) (x8 + 1) askd answ hM _ _ _ hP hD hS (lv_sub hl [2, 3, 4, 5, 6, 7, 1, 0] rfl)
  · have hM := itT hM c_95
    refine lv_iinc (v := x7 + 1) (lv' := [(7, .int (x7 + 1)), (0, .ref qO), (1, .int p1), (2, .int p2), (3, .long p3), (5, .int (bI x5)), (6, .int (bI x6)), (8, .int x8), (9, .int x9)]) hx hb d_Or_ruleHolds_98 hl (k := 6) rfl rfl (by decide) rfl (fun ls hl => ?_)
    refine lv_goto (tgt := 175) hx hb d_Or_ruleHolds_101 (by decide) ?_
    refine lv_iinc (v := x8 + 1) (lv' := [(8, .int (x8 + 1)), (7, .int (x7 + 1)), (0, .ref qO), (1, .int p1), (2, .int p2), (3, .long p3), (5, .int (bI x5)), (6, .int (bI x6)), (9, .int x9)]) hx hb d_Or_ruleHolds_175 hl (k := 7) rfl rfl (by decide) rfl (fun ls hl => ?_)
    refine lv_goto (tgt := 17) hx hb d_Or_ruleHolds_178 (by decide) ?_
    exact hKo17 x5 x6 (x7 + 1) (x8 + 1) askd answ hM _ _ _ hP hD hS (lv_sub hl [2, 3, 4, 5, 6, 7, 1, 0] rfl)
set_option maxHeartbeats 4000000 in
set_option maxRecDepth 100000 in
theorem w_Or_ruleHolds_160 {p : Program} {l : Launch} {e : Env} {s : State} {m : MethodId} {args : Array Value} {below : List Frame} {meth : Method} {c : Code} {D : va_G} {cT : Nat → ClassId} {A : Nat → Prop} (S : CallFix p m c b_Or_ruleHolds 10 s args TB R_Or) (hr : meth.sig.returnType = (some .boolean)) (hlocks : meth.locks = false) (hE : EN D cT s) (hA : ∀ q, s.heap.size ≤ q → A q) {qO : Nat} {qOa : Nat} {qT : Nat} {qTs : Nat} {qR : Nat} {qRs : Nat} {qP : Nat} {qPc : Nat} {qPl : Nat} {qPv : Nat} {qL : Nat} {qLj : Nat} {qF : Nat} {qFk : Nat} {qFf : Nat} {qFl : Nat} {done : Int32} {brd : Int32} {tup : Int32} {tdn : Int32} {tlen : Int32} {tpl : Int32} {tsg : Nat → Int32} {rlen : Int32} {rsz : Int32} {rsg : Nat → Int32} {psz : Int32} {pcd : Nat → Int32} {pld : Nat → Int32} {pct : Nat → Int64} {lpr : Int32} {lful : Bool} {ljn : Nat → Int32} {fsz : Int32} {fkd : Nat → Int32} {ffr : Nat → Int32} {fto : Nat → Int32} {p1 : Int32} {p2 : Int32} {p3 : Int64} {rr : Bool} {o_askd : Int32} {o_answ : Nat → Int32} {Ko17 : Bool → Bool → Int32 → Int32 → Int32 → (Nat → Int32) → Option (Bool × Int32 × (Nat → Int32))} (hKo17 : ∀ (x5 : Bool) (x6 : Bool) (x7 : Int32) (x8 : Int32) (askd : Int32) (answ : Nat → Int32), Ko17 x5 x6 x7 x8 askd answ = some (rr, o_askd, o_answ) → ∀ (H : Heap) (locs : List Loc) (ls : Array Slot), va_P D classes [(qO, .inr (0, [.ref qT, .ref qR, .ref qP, .ref qL, .ref qF, .int done, .int brd, .int tup, .int tdn, .ref qOa, .int askd])), (qOa, .inl (cT 0, 149, .inl answ)), (qT, .inr (1, [.ref qTs, .int tlen, .int tpl])), (qTs, .inl (cT 2, 300, .inl tsg)), (qR, .inr (2, [.ref qRs, .int rlen, .int rsz])), (qRs, .inl (cT 2, 300, .inl rsg)), (qP, .inr (3, [.ref qPc, .ref qPl, .ref qPv, .int psz])), (qPc, .inl (cT 0, 12, .inl pcd)), (qPl, .inl (cT 0, 12, .inl pld)), (qPv, .inl (cT 1, 12, .inr (.inl pct))), (qL, .inr (4, [.ref qLj, .int lpr, .int (bI lful)])), (qLj, .inl (cT 0, 10, .inl ljn)), (qF, .inr (5, [.ref qFk, .ref qFf, .ref qFl, .int fsz])), (qFk, .inl (cT 0, 20, .inl fkd)), (qFf, .inl (cT 0, 20, .inl ffr)), (qFl, .inl (cT 0, 20, .inl fto))] H → va_D A [(qO, .inr (0, [.ref qT, .ref qR, .ref qP, .ref qL, .ref qF, .int done, .int brd, .int tup, .int tdn, .ref qOa, .int askd])), (qOa, .inl (cT 0, 149, .inl answ)), (qT, .inr (1, [.ref qTs, .int tlen, .int tpl])), (qTs, .inl (cT 2, 300, .inl tsg)), (qR, .inr (2, [.ref qRs, .int rlen, .int rsz])), (qRs, .inl (cT 2, 300, .inl rsg)), (qP, .inr (3, [.ref qPc, .ref qPl, .ref qPv, .int psz])), (qPc, .inl (cT 0, 12, .inl pcd)), (qPl, .inl (cT 0, 12, .inl pld)), (qPv, .inl (cT 1, 12, .inr (.inl pct))), (qL, .inr (4, [.ref qLj, .int lpr, .int (bI lful)])), (qLj, .inl (cT 0, 10, .inl ljn)), (qF, .inr (5, [.ref qFk, .ref qFf, .ref qFl, .int fsz])), (qFk, .inl (cT 0, 20, .inl fkd)), (qFf, .inl (cT 0, 20, .inl ffr)), (qFl, .inl (cT 0, 20, .inl fto))] → va_S A s.heap H locs → lv_has ls 10 [(0, .ref qO), (1, .int p1), (2, .int p2), (3, .long p3), (5, .int (bI x5)), (6, .int (bI x6)), (7, .int x7), (8, .int x8)] → W p l e (headSpec (WS y_Or_ruleHolds b_Or_ruleHolds 10 (some .boolean)) rm_Or_ruleHolds).room s m args below meth c H locs 0 0 (MQ below (qW D A [(qO, .inr (0, [.ref qT, .ref qR, .ref qP, .ref qL, .ref qF, .int done, .int brd, .int tup, .int tdn, .ref qOa, .int o_askd])), (qOa, .inl (cT 0, 149, .inl o_answ)), (qT, .inr (1, [.ref qTs, .int tlen, .int tpl])), (qTs, .inl (cT 2, 300, .inl tsg)), (qR, .inr (2, [.ref qRs, .int rlen, .int rsz])), (qRs, .inl (cT 2, 300, .inl rsg)), (qP, .inr (3, [.ref qPc, .ref qPl, .ref qPv, .int psz])), (qPc, .inl (cT 0, 12, .inl pcd)), (qPl, .inl (cT 0, 12, .inl pld)), (qPv, .inl (cT 1, 12, .inr (.inl pct))), (qL, .inr (4, [.ref qLj, .int lpr, .int (bI lful)])), (qLj, .inl (cT 0, 10, .inl ljn)), (qF, .inr (5, [.ref qFk, .ref qFf, .ref qFl, .int fsz])), (qFk, .inl (cT 0, 20, .inl fkd)), (qFf, .inl (cT 0, 20, .inl ffr)), (qFl, .inl (cT 0, 20, .inl fto))] (some (.int (bI rr)))) args s 0 0 A) (F0 m 17 ls [])) : ∀ (x5 : Bool) (x6 : Bool) (x7 : Int32) (x8 : Int32) (x9 : Int32) (askd : Int32) (answ : Nat → Int32), k_Or_ruleHolds_160 done tup tdn rlen rsg psz pcd pld pct lful ljn p1 p2 p3 Ko17 x5 x6 x7 x8 x9 askd answ = some (rr, o_askd, o_answ) → ∀ (H : Heap) (locs : List Loc) (ls : Array Slot), va_P D classes [(qO, .inr (0, [.ref qT, .ref qR, .ref qP, .ref qL, .ref qF, .int done, .int brd, .int tup, .int tdn, .ref qOa, .int askd])), (qOa, .inl (cT 0, 149, .inl answ)), (qT, .inr (1, [.ref qTs, .int tlen, .int tpl])), (qTs, .inl (cT 2, 300, .inl tsg)), (qR, .inr (2, [.ref qRs, .int rlen, .int rsz])), (qRs, .inl (cT 2, 300, .inl rsg)), (qP, .inr (3, [.ref qPc, .ref qPl, .ref qPv, .int psz])), (qPc, .inl (cT 0, 12, .inl pcd)), (qPl, .inl (cT 0, 12, .inl pld)), (qPv, .inl (cT 1, 12, .inr (.inl pct))), (qL, .inr (4, [.ref qLj, .int lpr, .int (bI lful)])), (qLj, .inl (cT 0, 10, .inl ljn)), (qF, .inr (5, [.ref qFk, .ref qFf, .ref qFl, .int fsz])), (qFk, .inl (cT 0, 20, .inl fkd)), (qFf, .inl (cT 0, 20, .inl ffr)), (qFl, .inl (cT 0, 20, .inl fto))] H → va_D A [(qO, .inr (0, [.ref qT, .ref qR, .ref qP, .ref qL, .ref qF, .int done, .int brd, .int tup, .int tdn, .ref qOa, .int askd])), (qOa, .inl (cT 0, 149, .inl answ)), (qT, .inr (1, [.ref qTs, .int tlen, .int tpl])), (qTs, .inl (cT 2, 300, .inl tsg)), (qR, .inr (2, [.ref qRs, .int rlen, .int rsz])), (qRs, .inl (cT 2, 300, .inl rsg)), (qP, .inr (3, [.ref qPc, .ref qPl, .ref qPv, .int psz])), (qPc, .inl (cT 0, 12, .inl pcd)), (qPl, .inl (cT 0, 12, .inl pld)), (qPv, .inl (cT 1, 12, .inr (.inl pct))), (qL, .inr (4, [.ref qLj, .int lpr, .int (bI lful)])), (qLj, .inl (cT 0, 10, .inl ljn)), (qF, .inr (5, [.ref qFk, .ref qFf, .ref qFl, .int fsz])), (qFk, .inl (cT 0, 20, .inl fkd)), (qFf, .inl (cT 0, 20, .inl ffr)), (qFl, .inl (cT 0, 20, .inl fto))] → va_S A s.heap H locs → lv_has ls 10 [(0, .ref qO), (1, .int p1), (2, .int p2), (3, .long p3), (5, .int (bI x5)), (6, .int (bI x6)), (7, .int x7), (8, .int x8), (9, .int x9)] → W p l e (headSpec (WS y_Or_ruleHolds b_Or_ruleHolds 10 (some .boolean)) rm_Or_ruleHolds).room s m args below meth c H locs 0 0 (MQ below (qW D A [(qO, .inr (0, [.ref qT, .ref qR, .ref qP, .ref qL, .ref qF, .int done, .int brd, .int tup, .int tdn, .ref qOa, .int o_askd])), (qOa, .inl (cT 0, 149, .inl o_answ)), (qT, .inr (1, [.ref qTs, .int tlen, .int tpl])), (qTs, .inl (cT 2, 300, .inl tsg)), (qR, .inr (2, [.ref qRs, .int rlen, .int rsz])), (qRs, .inl (cT 2, 300, .inl rsg)), (qP, .inr (3, [.ref qPc, .ref qPl, .ref qPv, .int psz])), (qPc, .inl (cT 0, 12, .inl pcd)), (qPl, .inl (cT 0, 12, .inl pld)), (qPv, .inl (cT 1, 12, .inr (.inl pct))), (qL, .inr (4, [.ref qLj, .int lpr, .int (bI lful)])), (qLj, .inl (cT 0, 10, .inl ljn)), (qF, .inr (5, [.ref qFk, .ref qFf, .ref qFl, .int fsz])), (qFk, .inl (cT 0, 20, .inl fkd)), (qFf, .inl (cT 0, 20, .inl ffr)), (qFl, .inl (cT 0, 20, .inl fto))] (some (.int (bI rr)))) args s 0 0 A) (F0 m 160 ls []) := by
  obtain ⟨hx, hb, hml, hown, hts⟩ := id S
  have hK := hE.1
  have hN := hE.2
  intro x5 x6 x7 x8 x9 askd answ hM H locs ls hP hD hS hl
  unfold k_Or_ruleHolds_160 at hM
  refine lv_iload hx hb d_Or_ruleHolds_160 (lv_at hl 8 rfl) ?_
  refine lv_bipush (v := 124) hx hb d_Or_ruleHolds_162 (by decide) ?_
  refine lv_icmp_ne (tgt := 175) hx hb d_Or_ruleHolds_164 (by decide) (fun c_164 => ?_) (fun c_164 => ?_)
  · have hM := itF hM c_164
    refine lv_iinc (v := x8 + 1) (lv' := [(8, .int (x8 + 1)), (0, .ref qO), (1, .int p1), (2, .int p2), (3, .long p3), (5, .int (bI x5)), (6, .int (bI x6)), (7, .int x7), (9, .int x9)]) hx hb d_Or_ruleHolds_175 hl (k := 7) rfl rfl (by decide) rfl (fun ls hl => ?_)
    refine lv_goto (tgt := 17) hx hb d_Or_ruleHolds_178 (by decide) ?_
    exact hKo17 x5 x6 x7 (x8 + 1) askd answ hM _ _ _ hP hD hS (lv_sub hl [1, 2, 3, 4, 5, 6, 7, 0] rfl)
  · have hM := itT hM c_164
    refine lv_iload hx hb d_Or_ruleHolds_167 (lv_at hl 4 rfl) ?_
    refine lv_if_eq (tgt := 175) hx hb d_Or_ruleHolds_169 (by decide) (fun c_169 => ?_) (fun c_169 => ?_)
    · have hM := itT hM c_169
      refine lv_iinc (v := x8 + 1) (lv' := [(8, .int (x8 + 1)), (0, .ref qO), (1, .int p1), (2, .int p2), (3, .long p3), (5, .int (bI x5)), (6, .int (bI x6)), (7, .int x7), (9, .int x9)]) hx hb d_Or_ruleHolds_175 hl (k := 7) rfl rfl (by decide) rfl (fun ls hl => ?_)
      refine lv_goto (tgt := 17) hx hb d_Or_ruleHolds_178 (by decide) ?_
      exact hKo17 x5 x6 x7 (x8 + 1) askd answ hM _ _ _ hP hD hS (lv_sub hl [1, 2, 3, 4, 5, 6, 7, 0] rfl)
    · have hM := itF hM c_169
      refine lv_iconst (v := 1) hx hb d_Or_ruleHolds_172 (by decide) ?_
      refine lv_istore (lv' := [(6, .int 1), (0, .ref qO), (1, .int p1), (2, .int p2), (3, .long p3), (5, .int (bI x5)), (7, .int x7), (8, .int x8), (9, .int x9)]) hx hb d_Or_ruleHolds_173 hl (by decide) rfl (fun ls hl => ?_)
      refine lv_iinc (v := x8 + 1) (lv' := [(8, .int (x8 + 1)), (6, .int 1), (0, .ref qO), (1, .int p1), (2, .int p2), (3, .long p3), (5, .int (bI x5)), (7, .int x7), (9, .int x9)]) hx hb d_Or_ruleHolds_175 hl (k := 7) rfl rfl (by decide) rfl (fun ls hl => ?_)
      refine lv_goto (tgt := 17) hx hb d_Or_ruleHolds_178 (by decide) ?_
      exact hKo17 x5 true x7 (x8 + 1) askd answ hM _ _ _ hP hD hS (lv_sub hl [2, 3, 4, 5, 6, 1, 7, 0] rfl)
set_option maxHeartbeats 4000000 in
set_option maxRecDepth 100000 in
theorem w_Or_ruleHolds_17 {p : Program} {l : Launch} {e : Env} {s : State} {m : MethodId} {args : Array Value} {below : List Frame} {meth : Method} {c : Code} {D : va_G} {cT : Nat → ClassId} {A : Nat → Prop} (S : CallFix p m c b_Or_ruleHolds 10 s args TB R_Or) (hr : meth.sig.returnType = (some .boolean)) (hlocks : meth.locks = false) (hE : EN D cT s) (hA : ∀ q, s.heap.size ≤ q → A q) {qO : Nat} {qOa : Nat} {qT : Nat} {qTs : Nat} {qR : Nat} {qRs : Nat} {qP : Nat} {qPc : Nat} {qPl : Nat} {qPv : Nat} {qL : Nat} {qLj : Nat} {qF : Nat} {qFk : Nat} {qFf : Nat} {qFl : Nat} {done : Int32} {brd : Int32} {tup : Int32} {tdn : Int32} {tlen : Int32} {tpl : Int32} {tsg : Nat → Int32} {rlen : Int32} {rsz : Int32} {rsg : Nat → Int32} {psz : Int32} {pcd : Nat → Int32} {pld : Nat → Int32} {pct : Nat → Int64} {lpr : Int32} {lful : Bool} {ljn : Nat → Int32} {fsz : Int32} {fkd : Nat → Int32} {ffr : Nat → Int32} {fto : Nat → Int32} {p1 : Int32} {p2 : Int32} {p3 : Int64} {rr : Bool} {o_askd : Int32} {o_answ : Nat → Int32} : ∀ (n : Nat) (x5 : Bool) (x6 : Bool) (x7 : Int32) (x8 : Int32) (askd : Int32) (answ : Nat → Int32), k_Or_ruleHolds_17 done tup tdn rlen rsg psz pcd pld pct lful ljn p1 p2 p3  n x5 x6 x7 x8 askd answ = some (rr, o_askd, o_answ) → ∀ (H : Heap) (locs : List Loc) (ls : Array Slot), va_P D classes [(qO, .inr (0, [.ref qT, .ref qR, .ref qP, .ref qL, .ref qF, .int done, .int brd, .int tup, .int tdn, .ref qOa, .int askd])), (qOa, .inl (cT 0, 149, .inl answ)), (qT, .inr (1, [.ref qTs, .int tlen, .int tpl])), (qTs, .inl (cT 2, 300, .inl tsg)), (qR, .inr (2, [.ref qRs, .int rlen, .int rsz])), (qRs, .inl (cT 2, 300, .inl rsg)), (qP, .inr (3, [.ref qPc, .ref qPl, .ref qPv, .int psz])), (qPc, .inl (cT 0, 12, .inl pcd)), (qPl, .inl (cT 0, 12, .inl pld)), (qPv, .inl (cT 1, 12, .inr (.inl pct))), (qL, .inr (4, [.ref qLj, .int lpr, .int (bI lful)])), (qLj, .inl (cT 0, 10, .inl ljn)), (qF, .inr (5, [.ref qFk, .ref qFf, .ref qFl, .int fsz])), (qFk, .inl (cT 0, 20, .inl fkd)), (qFf, .inl (cT 0, 20, .inl ffr)), (qFl, .inl (cT 0, 20, .inl fto))] H → va_D A [(qO, .inr (0, [.ref qT, .ref qR, .ref qP, .ref qL, .ref qF, .int done, .int brd, .int tup, .int tdn, .ref qOa, .int askd])), (qOa, .inl (cT 0, 149, .inl answ)), (qT, .inr (1, [.ref qTs, .int tlen, .int tpl])), (qTs, .inl (cT 2, 300, .inl tsg)), (qR, .inr (2, [.ref qRs, .int rlen, .int rsz])), (qRs, .inl (cT 2, 300, .inl rsg)), (qP, .inr (3, [.ref qPc, .ref qPl, .ref qPv, .int psz])), (qPc, .inl (cT 0, 12, .inl pcd)), (qPl, .inl (cT 0, 12, .inl pld)), (qPv, .inl (cT 1, 12, .inr (.inl pct))), (qL, .inr (4, [.ref qLj, .int lpr, .int (bI lful)])), (qLj, .inl (cT 0, 10, .inl ljn)), (qF, .inr (5, [.ref qFk, .ref qFf, .ref qFl, .int fsz])), (qFk, .inl (cT 0, 20, .inl fkd)), (qFf, .inl (cT 0, 20, .inl ffr)), (qFl, .inl (cT 0, 20, .inl fto))] → va_S A s.heap H locs → lv_has ls 10 [(0, .ref qO), (1, .int p1), (2, .int p2), (3, .long p3), (5, .int (bI x5)), (6, .int (bI x6)), (7, .int x7), (8, .int x8)] → W p l e (headSpec (WS y_Or_ruleHolds b_Or_ruleHolds 10 (some .boolean)) rm_Or_ruleHolds).room s m args below meth c H locs 0 0 (MQ below (qW D A [(qO, .inr (0, [.ref qT, .ref qR, .ref qP, .ref qL, .ref qF, .int done, .int brd, .int tup, .int tdn, .ref qOa, .int o_askd])), (qOa, .inl (cT 0, 149, .inl o_answ)), (qT, .inr (1, [.ref qTs, .int tlen, .int tpl])), (qTs, .inl (cT 2, 300, .inl tsg)), (qR, .inr (2, [.ref qRs, .int rlen, .int rsz])), (qRs, .inl (cT 2, 300, .inl rsg)), (qP, .inr (3, [.ref qPc, .ref qPl, .ref qPv, .int psz])), (qPc, .inl (cT 0, 12, .inl pcd)), (qPl, .inl (cT 0, 12, .inl pld)), (qPv, .inl (cT 1, 12, .inr (.inl pct))), (qL, .inr (4, [.ref qLj, .int lpr, .int (bI lful)])), (qLj, .inl (cT 0, 10, .inl ljn)), (qF, .inr (5, [.ref qFk, .ref qFf, .ref qFl, .int fsz])), (qFk, .inl (cT 0, 20, .inl fkd)), (qFf, .inl (cT 0, 20, .inl ffr)), (qFl, .inl (cT 0, 20, .inl fto))] (some (.int (bI rr)))) args s 0 0 A) (F0 m 17 ls []) := by
  obtain ⟨hx, hb, hml, hown, hts⟩ := id S
  have hK := hE.1
  have hN := hE.2
  intro n
  induction n with
  | zero =>
    intro x5 x6 x7 x8 askd answ hM
    rw [k_Or_ruleHolds_17_z] at hM
    cases hM
  | succ n ih =>
    intro x5 x6 x7 x8 askd answ hM H locs ls hP hD hS hl
    rw [k_Or_ruleHolds_17_s] at hM
    refine lv_iload hx hb d_Or_ruleHolds_17 (lv_at hl 7 rfl) ?_
    refine lv_aload_n hx hb d_Or_ruleHolds_19 rfl (lv_at hl 0 rfl) ?_
    refine va_get (D := D) (ci := 0) (v := .ref qR) (C := R_Or) (T := F_Or) (N := 11) hx hb hts i_Or hown hK hP 0 rfl rfl 1 (by decide) (hts _ iw_1ffb187c) (fun _ h9 => h9) rfl d_Or_ruleHolds_20 ?_
    refine va_getN (D := D) (ci := 2) (v := .int rlen) (C := R_Rows) (T := F_Rows) (N := 3) hx hb hts i_Rows hown hK hP 4 rfl rfl 1 (by decide) (va_Nw.use rfl (hN _ nl_065fcde7)) (fun _ h9 => h9) rfl d_Or_ruleHolds_23 ?_
    refine lv_icmp_ge (tgt := 181) hx hb d_Or_ruleHolds_26 (by decide) (fun c_26 => ?_) (fun c_26 => ?_)
    · have hM := itT hM c_26
      refine lv_iload hx hb d_Or_ruleHolds_181 (lv_at hl 4 rfl) ?_
      obtain ⟨eo0, eo1, eo2⟩ := so3T hM
      subst eo0
      subst eo1
      subst eo2
      exact rt_z S hr hlocks hP hD hS d_Or_ruleHolds_183
    · have hM := itF hM c_26
      refine lv_aload_n hx hb d_Or_ruleHolds_29 rfl (lv_at hl 0 rfl) ?_
      refine va_get (D := D) (ci := 0) (v := .ref qR) (C := R_Or) (T := F_Or) (N := 11) hx hb hts i_Or hown hK hP 0 rfl rfl 1 (by decide) (hts _ iw_1ffb187c) (fun _ h9 => h9) rfl d_Or_ruleHolds_30 ?_
      refine va_getN (D := D) (ci := 2) (v := .ref qRs) (C := R_Rows) (T := F_Rows) (N := 3) hx hb hts i_Rows hown hK hP 4 rfl rfl 0 (by decide) (va_Nw.use rfl (hN _ nl_07236010)) (fun _ h9 => h9) rfl d_Or_ruleHolds_33 ?_
      refine lv_iload hx hb d_Or_ruleHolds_36 (lv_at hl 7 rfl) ?_
      obtain ⟨hin_38, hM⟩ := ixT hM
      refine va_cald hx hb hK hP 5 2 rfl rfl hin_38 d_Or_ruleHolds_38 ?_
      refine lv_bipush (v := 59) hx hb d_Or_ruleHolds_39 (by decide) ?_
      refine lv_icmp_eq (tgt := 181) hx hb d_Or_ruleHolds_41 (by decide) (fun c_41 => ?_) (fun c_41 => ?_)
      · have hM := itT hM c_41
        refine lv_iload hx hb d_Or_ruleHolds_181 (lv_at hl 4 rfl) ?_
        obtain ⟨eo0, eo1, eo2⟩ := so3T hM
        subst eo0
        subst eo1
        subst eo2
        exact rt_z S hr hlocks hP hD hS d_Or_ruleHolds_183
      · have hM := itF hM c_41
        refine lv_aload_n hx hb d_Or_ruleHolds_44 rfl (lv_at hl 0 rfl) ?_
        refine va_get (D := D) (ci := 0) (v := .ref qR) (C := R_Or) (T := F_Or) (N := 11) hx hb hts i_Or hown hK hP 0 rfl rfl 1 (by decide) (hts _ iw_1ffb187c) (fun _ h9 => h9) rfl d_Or_ruleHolds_45 ?_
        refine va_getN (D := D) (ci := 2) (v := .ref qRs) (C := R_Rows) (T := F_Rows) (N := 3) hx hb hts i_Rows hown hK hP 4 rfl rfl 0 (by decide) (va_Nw.use rfl (hN _ nl_07236010)) (fun _ h9 => h9) rfl d_Or_ruleHolds_48 ?_
        refine lv_iload hx hb d_Or_ruleHolds_51 (lv_at hl 7 rfl) ?_
        obtain ⟨hin_53, hM⟩ := ixT hM
        refine va_cald hx hb hK hP 5 2 rfl rfl hin_53 d_Or_ruleHolds_53 ?_
        refine lv_istore (lv' := [(9, .int (rsg x8.toNatClampNeg)), (0, .ref qO), (1, .int p1), (2, .int p2), (3, .long p3), (5, .int (bI x5)), (6, .int (bI x6)), (7, .int x7), (8, .int x8)]) hx hb d_Or_ruleHolds_54 hl (by decide) rfl (fun ls hl => ?_)
        refine lv_iload hx hb d_Or_ruleHolds_56 (lv_at hl 6 rfl) ?_
        refine lv_if_eq (tgt := 117) hx hb d_Or_ruleHolds_58 (by decide) (fun c_58 => ?_) (fun c_58 => ?_)
        · have hM := itT hM c_58
          refine lv_iload hx hb d_Or_ruleHolds_117 (lv_at hl 0 rfl) ?_
          obtain ⟨r_119, hc_119, hM⟩ := bd1T hM
          refine ca_S (As := [.int (rsg x8.toNatClampNeg)]) (rest := []) (wr := [(qO, .inr (0, [.ref qT, .ref qR, .ref qP, .ref qL, .ref qF, .int done, .int brd, .int tup, .int tdn, .ref qOa, .int askd])), (qOa, .inl (cT 0, 149, .inl answ)), (qT, .inr (1, [.ref qTs, .int tlen, .int tpl])), (qTs, .inl (cT 2, 300, .inl tsg)), (qR, .inr (2, [.ref qRs, .int rlen, .int rsz])), (qRs, .inl (cT 2, 300, .inl rsg)), (qP, .inr (3, [.ref qPc, .ref qPl, .ref qPv, .int psz])), (qPc, .inl (cT 0, 12, .inl pcd)), (qPl, .inl (cT 0, 12, .inl pld)), (qPv, .inl (cT 1, 12, .inr (.inl pct))), (qL, .inr (4, [.ref qLj, .int lpr, .int (bI lful)])), (qLj, .inl (cT 0, 10, .inl ljn)), (qF, .inr (5, [.ref qFk, .ref qFf, .ref qFl, .int fsz])), (qFk, .inl (cT 0, 20, .inl fkd)), (qFf, .inl (cT 0, 20, .inl ffr)), (qFl, .inl (cT 0, 20, .inl fto))]) (w2 := [(qO, .inr (0, [.ref qT, .ref qR, .ref qP, .ref qL, .ref qF, .int done, .int brd, .int tup, .int tdn, .ref qOa, .int askd])), (qOa, .inl (cT 0, 149, .inl answ)), (qT, .inr (1, [.ref qTs, .int tlen, .int tpl])), (qTs, .inl (cT 2, 300, .inl tsg)), (qR, .inr (2, [.ref qRs, .int rlen, .int rsz])), (qRs, .inl (cT 2, 300, .inl rsg)), (qP, .inr (3, [.ref qPc, .ref qPl, .ref qPv, .int psz])), (qPc, .inl (cT 0, 12, .inl pcd)), (qPl, .inl (cT 0, 12, .inl pld)), (qPv, .inl (cT 1, 12, .inr (.inl pct))), (qL, .inr (4, [.ref qLj, .int lpr, .int (bI lful)])), (qLj, .inl (cT 0, 10, .inl ljn)), (qF, .inr (5, [.ref qFk, .ref qFf, .ref qFl, .int fsz])), (qFk, .inl (cT 0, 20, .inl fkd)), (qFf, .inl (cT 0, 20, .inl ffr)), (qFl, .inl (cT 0, 20, .inl fto))]) S hE (c_Or_isLetter l D cT (rsg x8.toNatClampNeg) hc_119) gw_6045f965 rfl rfl ⟨Nat.le_of_ble_eq_true rfl, Nat.le_of_ble_eq_true rfl⟩ rfl hl.1 rfl (Nat.le_of_ble_eq_true rfl) d_Or_ruleHolds_119 ⟨Nat.zero_le _, Nat.zero_le _⟩ hP hD hS hA [] [0, 1, 2, 3, 4, 5, 6, 7, 8, 9, 10, 11, 12, 13, 14, 15] [0, 1, 2, 3, 4, 5, 6, 7, 8, 9, 10, 11, 12, 13, 14, 15] rfl rfl (by decide) (by decide) rfl (by decide) (by decide) (fun H locs hP hD hS => ?_)
          refine lv_if_eq (tgt := 148) hx hb d_Or_ruleHolds_122 (by decide) (fun c_122 => ?_) (fun c_122 => ?_)
          · have hM := itT hM c_122
            refine lv_iload hx hb d_Or_ruleHolds_148 (lv_at hl 0 rfl) ?_
            refine lv_bipush (v := 38) hx hb d_Or_ruleHolds_150 (by decide) ?_
            refine lv_icmp_ne (tgt := 160) hx hb d_Or_ruleHolds_152 (by decide) (fun c_152 => ?_) (fun c_152 => ?_)
            · have hM := itF hM c_152
              exact w_Or_ruleHolds_160 S hr hlocks hE hA (ih)  x5 x6 x7 x8 (rsg x8.toNatClampNeg) askd answ hM _ _ _ hP hD hS (lv_sub hl [1, 2, 3, 4, 5, 6, 7, 8, 0] rfl)
            · have hM := itT hM c_152
              refine lv_iload hx hb d_Or_ruleHolds_155 (lv_at hl 5 rfl) ?_
              refine lv_if_eq (tgt := 172) hx hb d_Or_ruleHolds_157 (by decide) (fun c_157 => ?_) (fun c_157 => ?_)
              · have hM := itT hM c_157
                refine lv_iconst (v := 1) hx hb d_Or_ruleHolds_172 (by decide) ?_
                refine lv_istore (lv' := [(6, .int 1), (9, .int (rsg x8.toNatClampNeg)), (0, .ref qO), (1, .int p1), (2, .int p2), (3, .long p3), (5, .int (bI x5)), (7, .int x7), (8, .int x8)]) hx hb d_Or_ruleHolds_173 hl (by decide) rfl (fun ls hl => ?_)
                refine lv_iinc (v := x8 + 1) (lv' := [(8, .int (x8 + 1)), (6, .int 1), (9, .int (rsg x8.toNatClampNeg)), (0, .ref qO), (1, .int p1), (2, .int p2), (3, .long p3), (5, .int (bI x5)), (7, .int x7)]) hx hb d_Or_ruleHolds_175 hl (k := 8) rfl rfl (by decide) rfl (fun ls hl => ?_)
                refine lv_goto (tgt := 17) hx hb d_Or_ruleHolds_178 (by decide) ?_
                exact ih x5 true x7 (x8 + 1) askd answ hM _ _ _ hP hD hS (lv_sub hl [3, 4, 5, 6, 7, 1, 8, 0] rfl)
              · have hM := itF hM c_157
                exact w_Or_ruleHolds_160 S hr hlocks hE hA (ih)  x5 x6 x7 x8 (rsg x8.toNatClampNeg) askd answ hM _ _ _ hP hD hS (lv_sub hl [1, 2, 3, 4, 5, 6, 7, 8, 0] rfl)
          · have hM := itF hM c_122
            refine lv_aload_n hx hb d_Or_ruleHolds_125 rfl (lv_at hl 1 rfl) ?_
            refine lv_iload hx hb d_Or_ruleHolds_126 (lv_at hl 8 rfl) ?_
            refine lv_iload_n hx hb d_Or_ruleHolds_128 rfl (lv_at hl 3 rfl) ?_
            refine lv_lload_n hx hb d_Or_ruleHolds_129 rfl (lv_at hl 4 rfl) ?_
            obtain ⟨r_130, hc_130, hM⟩ := bd1T hM
            refine ca_V (As := [.int x8, .int p2, .long p3]) (rest := []) (wr := []) (w2 := [(qO, .inr (0, [.ref qT, .ref qR, .ref qP, .ref qL, .ref qF, .int done, .int brd, .int tup, .int tdn, .ref qOa, .int askd])), (qOa, .inl (cT 0, 149, .inl answ)), (qT, .inr (1, [.ref qTs, .int tlen, .int tpl])), (qTs, .inl (cT 2, 300, .inl tsg)), (qR, .inr (2, [.ref qRs, .int rlen, .int rsz])), (qRs, .inl (cT 2, 300, .inl rsg)), (qP, .inr (3, [.ref qPc, .ref qPl, .ref qPv, .int psz])), (qPc, .inl (cT 0, 12, .inl pcd)), (qPl, .inl (cT 0, 12, .inl pld)), (qPv, .inl (cT 1, 12, .inr (.inl pct))), (qL, .inr (4, [.ref qLj, .int lpr, .int (bI lful)])), (qLj, .inl (cT 0, 10, .inl ljn)), (qF, .inr (5, [.ref qFk, .ref qFf, .ref qFl, .int fsz])), (qFk, .inl (cT 0, 20, .inl fkd)), (qFf, .inl (cT 0, 20, .inl ffr)), (qFl, .inl (cT 0, 20, .inl fto))]) S hE (c_Or_factorHolds l D cT qO qOa qT qTs qR qRs qP qPc qPl qPv qL qLj qF qFk qFf qFl done brd tup tdn askd answ tlen tpl tsg rlen rsz rsg psz pcd pld pct lpr lful ljn fsz fkd ffr fto x8 p2 p3 hc_130) gw_e73b29bc rfl rfl ⟨Nat.le_of_ble_eq_true rfl, Nat.le_of_ble_eq_true rfl⟩ (ci := 0) rfl rfl (k0 := 0) rfl rfl hl.1 rfl (Nat.le_of_ble_eq_true rfl) d_Or_ruleHolds_130 ⟨Nat.zero_le _, Nat.zero_le _⟩ hP hD hS hA [0, 1, 2, 3, 4, 5, 6, 7, 8, 9, 10, 11, 12, 13, 14, 15] [] [0, 1, 2, 3, 4, 5, 6, 7, 8, 9, 10, 11, 12, 13, 14, 15] rfl rfl (by decide) (by decide) rfl (by decide) (by decide) (fun H locs hP hD hS => ?_)
            refine lv_istore (lv' := [(5, .int (bI r_130)), (9, .int (rsg x8.toNatClampNeg)), (0, .ref qO), (1, .int p1), (2, .int p2), (3, .long p3), (6, .int (bI x6)), (7, .int x7), (8, .int x8)]) hx hb d_Or_ruleHolds_133 hl (by decide) rfl (fun ls hl => ?_)
            refine lv_aload_n hx hb d_Or_ruleHolds_135 rfl (lv_at hl 2 rfl) ?_
            refine lv_iload hx hb d_Or_ruleHolds_136 (lv_at hl 8 rfl) ?_
            refine lv_iload_n hx hb d_Or_ruleHolds_138 rfl (lv_at hl 3 rfl) ?_
            refine lv_isub hx hb d_Or_ruleHolds_139 ?_
            refine lv_iload hx hb d_Or_ruleHolds_140 (lv_at hl 0 rfl) ?_
            obtain ⟨askd_142, answ_142, hc_142, hM⟩ := bd2T hM
            refine ca_V (As := [.int (x8 - p1), .int (bI r_130)]) (rest := []) (wr := []) (w2 := [(qO, .inr (0, [.ref qT, .ref qR, .ref qP, .ref qL, .ref qF, .int done, .int brd, .int tup, .int tdn, .ref qOa, .int askd_142])), (qOa, .inl (cT 0, 149, .inl answ_142)), (qT, .inr (1, [.ref qTs, .int tlen, .int tpl])), (qTs, .inl (cT 2, 300, .inl tsg)), (qR, .inr (2, [.ref qRs, .int rlen, .int rsz])), (qRs, .inl (cT 2, 300, .inl rsg)), (qP, .inr (3, [.ref qPc, .ref qPl, .ref qPv, .int psz])), (qPc, .inl (cT 0, 12, .inl pcd)), (qPl, .inl (cT 0, 12, .inl pld)), (qPv, .inl (cT 1, 12, .inr (.inl pct))), (qL, .inr (4, [.ref qLj, .int lpr, .int (bI lful)])), (qLj, .inl (cT 0, 10, .inl ljn)), (qF, .inr (5, [.ref qFk, .ref qFf, .ref qFl, .int fsz])), (qFk, .inl (cT 0, 20, .inl fkd)), (qFf, .inl (cT 0, 20, .inl ffr)), (qFl, .inl (cT 0, 20, .inl fto))]) S hE (c_Or_keepAnswer l D cT qO qOa qT qTs qR qRs qP qPc qPl qPv qL qLj qF qFk qFf qFl done brd tup tdn askd answ tlen tpl tsg rlen rsz rsg psz pcd pld pct lpr lful ljn fsz fkd ffr fto (x8 - p1) r_130 hc_142) gw_154b8a27 rfl rfl ⟨Nat.le_of_ble_eq_true rfl, Nat.le_of_ble_eq_true rfl⟩ (ci := 0) rfl rfl (k0 := 0) rfl rfl hl.1 rfl (Nat.le_of_ble_eq_true rfl) d_Or_ruleHolds_142 ⟨Nat.zero_le _, Nat.zero_le _⟩ hP hD hS hA [0, 1, 2, 3, 4, 5, 6, 7, 8, 9, 10, 11, 12, 13, 14, 15] [] [0, 1, 2, 3, 4, 5, 6, 7, 8, 9, 10, 11, 12, 13, 14, 15] rfl rfl (by decide) (by decide) rfl (by decide) (by decide) (fun H locs hP hD hS => ?_)
            refine lv_goto (tgt := 175) hx hb d_Or_ruleHolds_145 (by decide) ?_
            refine lv_iinc (v := x8 + 1) (lv' := [(8, .int (x8 + 1)), (5, .int (bI r_130)), (9, .int (rsg x8.toNatClampNeg)), (0, .ref qO), (1, .int p1), (2, .int p2), (3, .long p3), (6, .int (bI x6)), (7, .int x7)]) hx hb d_Or_ruleHolds_175 hl (k := 8) rfl rfl (by decide) rfl (fun ls hl => ?_)
            refine lv_goto (tgt := 17) hx hb d_Or_ruleHolds_178 (by decide) ?_
            exact ih r_130 x6 x7 (x8 + 1) askd_142 answ_142 hM _ _ _ hP hD hS (lv_sub hl [3, 4, 5, 6, 1, 7, 8, 0] rfl)
        · have hM := itF hM c_58
          refine lv_iload hx hb d_Or_ruleHolds_61 (lv_at hl 7 rfl) ?_
          refine lv_if_ne (tgt := 91) hx hb d_Or_ruleHolds_63 (by decide) (fun c_63 => ?_) (fun c_63 => ?_)
          · have hM := itF hM c_63
            exact w_Or_ruleHolds_91 S hr hlocks hE hA (ih)  x5 x6 x7 x8 (rsg x8.toNatClampNeg) askd answ hM _ _ _ hP hD hS (lv_sub hl [1, 2, 3, 4, 5, 6, 7, 8, 0] rfl)
          · have hM := itT hM c_63
            refine lv_iload hx hb d_Or_ruleHolds_66 (lv_at hl 0 rfl) ?_
            refine lv_bipush (v := 41) hx hb d_Or_ruleHolds_68 (by decide) ?_
            refine lv_icmp_eq (tgt := 85) hx hb d_Or_ruleHolds_70 (by decide) (fun c_70 => ?_) (fun c_70 => ?_)
            · have hM := itT hM c_70
              refine lv_iconst (v := 0) hx hb d_Or_ruleHolds_85 (by decide) ?_
              refine lv_istore (lv' := [(6, .int 0), (9, .int (rsg x8.toNatClampNeg)), (0, .ref qO), (1, .int p1), (2, .int p2), (3, .long p3), (5, .int (bI x5)), (7, .int x7), (8, .int x8)]) hx hb d_Or_ruleHolds_86 hl (by decide) rfl (fun ls hl => ?_)
              refine lv_goto (tgt := 175) hx hb d_Or_ruleHolds_88 (by decide) ?_
              refine lv_iinc (v := x8 + 1) (lv' := [(8, .int (x8 + 1)), (6, .int 0), (9, .int (rsg x8.toNatClampNeg)), (0, .ref qO), (1, .int p1), (2, .int p2), (3, .long p3), (5, .int (bI x5)), (7, .int x7)]) hx hb d_Or_ruleHolds_175 hl (k := 8) rfl rfl (by decide) rfl (fun ls hl => ?_)
              refine lv_goto (tgt := 17) hx hb d_Or_ruleHolds_178 (by decide) ?_
              exact ih x5 false x7 (x8 + 1) askd answ hM _ _ _ hP hD hS (lv_sub hl [3, 4, 5, 6, 7, 1, 8, 0] rfl)
            · have hM := itF hM c_70
              refine lv_iload hx hb d_Or_ruleHolds_73 (lv_at hl 0 rfl) ?_
              refine lv_bipush (v := 124) hx hb d_Or_ruleHolds_75 (by decide) ?_
              refine lv_icmp_ne (tgt := 91) hx hb d_Or_ruleHolds_77 (by decide) (fun c_77 => ?_) (fun c_77 => ?_)
              · have hM := itF hM c_77
                exact w_Or_ruleHolds_91 S hr hlocks hE hA (ih)  x5 x6 x7 x8 (rsg x8.toNatClampNeg) askd answ hM _ _ _ hP hD hS (lv_sub hl [1, 2, 3, 4, 5, 6, 7, 8, 0] rfl)
              · have hM := itT hM c_77
                refine lv_iload hx hb d_Or_ruleHolds_80 (lv_at hl 5 rfl) ?_
                refine lv_if_ne (tgt := 91) hx hb d_Or_ruleHolds_82 (by decide) (fun c_82 => ?_) (fun c_82 => ?_)
                · have hM := itF hM c_82
                  exact w_Or_ruleHolds_91 S hr hlocks hE hA (ih)  x5 x6 x7 x8 (rsg x8.toNatClampNeg) askd answ hM _ _ _ hP hD hS (lv_sub hl [1, 2, 3, 4, 5, 6, 7, 8, 0] rfl)
                · have hM := itT hM c_82
                  refine lv_iconst (v := 0) hx hb d_Or_ruleHolds_85 (by decide) ?_
                  refine lv_istore (lv' := [(6, .int 0), (9, .int (rsg x8.toNatClampNeg)), (0, .ref qO), (1, .int p1), (2, .int p2), (3, .long p3), (5, .int (bI x5)), (7, .int x7), (8, .int x8)]) hx hb d_Or_ruleHolds_86 hl (by decide) rfl (fun ls hl => ?_)
                  refine lv_goto (tgt := 175) hx hb d_Or_ruleHolds_88 (by decide) ?_
                  refine lv_iinc (v := x8 + 1) (lv' := [(8, .int (x8 + 1)), (6, .int 0), (9, .int (rsg x8.toNatClampNeg)), (0, .ref qO), (1, .int p1), (2, .int p2), (3, .long p3), (5, .int (bI x5)), (7, .int x7)]) hx hb d_Or_ruleHolds_175 hl (k := 8) rfl rfl (by decide) rfl (fun ls hl => ?_)
                  refine lv_goto (tgt := 17) hx hb d_Or_ruleHolds_178 (by decide) ?_
                  exact ih x5 false x7 (x8 + 1) askd answ hM _ _ _ hP hD hS (lv_sub hl [3, 4, 5, 6, 7, 1, 8, 0] rfl)
set_option maxHeartbeats 4000000 in
set_option maxRecDepth 100000 in
theorem c_Or_ruleHolds (l : Launch) (D : va_G) (cT : Nat → ClassId) (qO : Nat) (qOa : Nat) (qT : Nat) (qTs : Nat) (qR : Nat) (qRs : Nat) (qP : Nat) (qPc : Nat) (qPl : Nat) (qPv : Nat) (qL : Nat) (qLj : Nat) (qF : Nat) (qFk : Nat) (qFf : Nat) (qFl : Nat) (done : Int32) (brd : Int32) (tup : Int32) (tdn : Int32) (askd : Int32) (answ : Nat → Int32) (tlen : Int32) (tpl : Int32) (tsg : Nat → Int32) (rlen : Int32) (rsz : Int32) (rsg : Nat → Int32) (psz : Int32) (pcd : Nat → Int32) (pld : Nat → Int32) (pct : Nat → Int64) (lpr : Int32) (lful : Bool) (ljn : Nat → Int32) (fsz : Int32) (fkd : Nat → Int32) (ffr : Nat → Int32) (fto : Nat → Int32) (p1 : Int32) (p2 : Int32) (p3 : Int64) {rr : Bool} {o_askd : Int32} {o_answ : Nat → Int32} (hM : m_Or_ruleHolds p1 p2 p3 done tup tdn rlen rsg psz pcd pld pct lful ljn askd answ = some (rr, o_askd, o_answ)) : Ct l y_Or_ruleHolds (WS y_Or_ruleHolds b_Or_ruleHolds 10 (some .boolean)) rm_Or_ruleHolds D cT [.ref qO, .int p1, .int p2, .long p3] [(qO, .inr (0, [.ref qT, .ref qR, .ref qP, .ref qL, .ref qF, .int done, .int brd, .int tup, .int tdn, .ref qOa, .int askd])), (qOa, .inl (cT 0, 149, .inl answ)), (qT, .inr (1, [.ref qTs, .int tlen, .int tpl])), (qTs, .inl (cT 2, 300, .inl tsg)), (qR, .inr (2, [.ref qRs, .int rlen, .int rsz])), (qRs, .inl (cT 2, 300, .inl rsg)), (qP, .inr (3, [.ref qPc, .ref qPl, .ref qPv, .int psz])), (qPc, .inl (cT 0, 12, .inl pcd)), (qPl, .inl (cT 0, 12, .inl pld)), (qPv, .inl (cT 1, 12, .inr (.inl pct))), (qL, .inr (4, [.ref qLj, .int lpr, .int (bI lful)])), (qLj, .inl (cT 0, 10, .inl ljn)), (qF, .inr (5, [.ref qFk, .ref qFf, .ref qFl, .int fsz])), (qFk, .inl (cT 0, 20, .inl fkd)), (qFf, .inl (cT 0, 20, .inl ffr)), (qFl, .inl (cT 0, 20, .inl fto))] (some (.int (bI rr))) [(qO, .inr (0, [.ref qT, .ref qR, .ref qP, .ref qL, .ref qF, .int done, .int brd, .int tup, .int tdn, .ref qOa, .int o_askd])), (qOa, .inl (cT 0, 149, .inl o_answ)), (qT, .inr (1, [.ref qTs, .int tlen, .int tpl])), (qTs, .inl (cT 2, 300, .inl tsg)), (qR, .inr (2, [.ref qRs, .int rlen, .int rsz])), (qRs, .inl (cT 2, 300, .inl rsg)), (qP, .inr (3, [.ref qPc, .ref qPl, .ref qPv, .int psz])), (qPc, .inl (cT 0, 12, .inl pcd)), (qPl, .inl (cT 0, 12, .inl pld)), (qPv, .inl (cT 1, 12, .inr (.inl pct))), (qL, .inr (4, [.ref qLj, .int lpr, .int (bI lful)])), (qLj, .inl (cT 0, 10, .inl ljn)), (qF, .inr (5, [.ref qFk, .ref qFf, .ref qFl, .int fsz])), (qFk, .inl (cT 0, 20, .inl fkd)), (qFf, .inl (cT 0, 20, .inl ffr)), (qFl, .inl (cT 0, 20, .inl fto))] 0 0 := by
  intro sz
  refine Met.ofW (cc := b_Or_ruleHolds) (maxL := 10) (ret := (some .boolean)) (by decide) rfl ?_
  intro p e s m args below meth c s₁ B hml hv
  obtain ⟨rfl, hsz, hP, hE, hD0⟩ := hv
  have hx := B.exec
  have hb := B.bytes
  have hr := B.returns
  have hts : ∀ w ∈ TB, w.before _ s = true := fun w h => atoms_spec (ws := WS y_Or_ruleHolds b_Or_ruleHolds 10 (some .boolean)) B.pre w (List.mem_cons_of_mem _ h)
  have hown : s.vm.findClass R_Or = some m.cls := findClass_of_methodNamed B.named
  have hlocks := B.notSynchronized
  have hK := hE.1
  have hN := hE.2
  subst hsz
  have hD := hD0.self (sz := s.heap.size)
  generalize hAe : va_A [(qO, .inr (0, [.ref qT, .ref qR, .ref qP, .ref qL, .ref qF, .int done, .int brd, .int tup, .int tdn, .ref qOa, .int askd])), (qOa, .inl (cT 0, 149, .inl answ)), (qT, .inr (1, [.ref qTs, .int tlen, .int tpl])), (qTs, .inl (cT 2, 300, .inl tsg)), (qR, .inr (2, [.ref qRs, .int rlen, .int rsz])), (qRs, .inl (cT 2, 300, .inl rsg)), (qP, .inr (3, [.ref qPc, .ref qPl, .ref qPv, .int psz])), (qPc, .inl (cT 0, 12, .inl pcd)), (qPl, .inl (cT 0, 12, .inl pld)), (qPv, .inl (cT 1, 12, .inr (.inl pct))), (qL, .inr (4, [.ref qLj, .int lpr, .int (bI lful)])), (qLj, .inl (cT 0, 10, .inl ljn)), (qF, .inr (5, [.ref qFk, .ref qFf, .ref qFl, .int fsz])), (qFk, .inl (cT 0, 20, .inl fkd)), (qFf, .inl (cT 0, 20, .inl ffr)), (qFl, .inl (cT 0, 20, .inl fto))] s.heap.size = A at hD ⊢
  have hA : ∀ q : Nat, s.heap.size ≤ q → A q := fun q h => by rw [← hAe]; exact Or.inr h
  have hS : va_S A s.heap s.heap [] := va_S.rf
  have hl := lv_entry ([.ref qO, .int p1, .int p2, .long p3]) (n := 10) (Nat.le_of_ble_eq_true rfl)
  rw [lg_entry_eq]
  generalize (lg_sl ([.ref qO, .int p1, .int p2, .long p3]) ++ List.replicate (10 - (lg_sl ([.ref qO, .int p1, .int p2, .long p3])).length) Slot.unset).toArray = ls at hl ⊢
  have hl : lv_has ls 10 [(0, .ref qO), (1, .int p1), (2, .int p2), (3, .long p3)] := hl
  have S : CallFix p m c b_Or_ruleHolds 10 s _ TB R_Or := ⟨hx, hb, hml, hown, hts⟩
  unfold m_Or_ruleHolds at hM
  refine lv_iconst (v := 0) hx hb d_Or_ruleHolds_0 (by decide) ?_
  refine lv_istore (lv' := [(5, .int 0), (0, .ref qO), (1, .int p1), (2, .int p2), (3, .long p3)]) hx hb d_Or_ruleHolds_1 hl (by decide) rfl (fun ls hl => ?_)
  refine lv_iconst (v := 0) hx hb d_Or_ruleHolds_3 (by decide) ?_
  refine lv_istore (lv' := [(6, .int 0), (5, .int 0), (0, .ref qO), (1, .int p1), (2, .int p2), (3, .long p3)]) hx hb d_Or_ruleHolds_4 hl (by decide) rfl (fun ls hl => ?_)
  refine lv_iconst (v := 0) hx hb d_Or_ruleHolds_6 (by decide) ?_
  refine lv_istore (lv' := [(7, .int 0), (6, .int 0), (5, .int 0), (0, .ref qO), (1, .int p1), (2, .int p2), (3, .long p3)]) hx hb d_Or_ruleHolds_7 hl (by decide) rfl (fun ls hl => ?_)
  refine lv_aload_n hx hb d_Or_ruleHolds_9 rfl (lv_at hl 3 rfl) ?_
  refine lv_iconst (v := 0) hx hb d_Or_ruleHolds_10 (by decide) ?_
  refine va_put (D := D) (ci := 0) (v := .int 0) (ty := .int) (C := R_Or) (T := F_Or) (N := 11) hx hb hts i_Or t_Or t_Or_ok n_Or hown hK hP hD hS 0 rfl rfl 10 (by decide) (hts _ iw_93c980ea) (fun _ h9 => h9) rfl (by decide +kernel) rfl rfl (Nat.le_of_ble_eq_true rfl) d_Or_ruleHolds_11 (fun H locs hP hD hS => ?_)
  have hP : va_P D classes [(qO, .inr (0, [.ref qT, .ref qR, .ref qP, .ref qL, .ref qF, .int done, .int brd, .int tup, .int tdn, .ref qOa, .int 0])), (qOa, .inl (cT 0, 149, .inl answ)), (qT, .inr (1, [.ref qTs, .int tlen, .int tpl])), (qTs, .inl (cT 2, 300, .inl tsg)), (qR, .inr (2, [.ref qRs, .int rlen, .int rsz])), (qRs, .inl (cT 2, 300, .inl rsg)), (qP, .inr (3, [.ref qPc, .ref qPl, .ref qPv, .int psz])), (qPc, .inl (cT 0, 12, .inl pcd)), (qPl, .inl (cT 0, 12, .inl pld)), (qPv, .inl (cT 1, 12, .inr (.inl pct))), (qL, .inr (4, [.ref qLj, .int lpr, .int (bI lful)])), (qLj, .inl (cT 0, 10, .inl ljn)), (qF, .inr (5, [.ref qFk, .ref qFf, .ref qFl, .int fsz])), (qFk, .inl (cT 0, 20, .inl fkd)), (qFf, .inl (cT 0, 20, .inl ffr)), (qFl, .inl (cT 0, 20, .inl fto))] H := hP
  have hD : va_D A [(qO, .inr (0, [.ref qT, .ref qR, .ref qP, .ref qL, .ref qF, .int done, .int brd, .int tup, .int tdn, .ref qOa, .int 0])), (qOa, .inl (cT 0, 149, .inl answ)), (qT, .inr (1, [.ref qTs, .int tlen, .int tpl])), (qTs, .inl (cT 2, 300, .inl tsg)), (qR, .inr (2, [.ref qRs, .int rlen, .int rsz])), (qRs, .inl (cT 2, 300, .inl rsg)), (qP, .inr (3, [.ref qPc, .ref qPl, .ref qPv, .int psz])), (qPc, .inl (cT 0, 12, .inl pcd)), (qPl, .inl (cT 0, 12, .inl pld)), (qPv, .inl (cT 1, 12, .inr (.inl pct))), (qL, .inr (4, [.ref qLj, .int lpr, .int (bI lful)])), (qLj, .inl (cT 0, 10, .inl ljn)), (qF, .inr (5, [.ref qFk, .ref qFf, .ref qFl, .int fsz])), (qFk, .inl (cT 0, 20, .inl fkd)), (qFf, .inl (cT 0, 20, .inl ffr)), (qFl, .inl (cT 0, 20, .inl fto))] := hD
  refine lv_iload_n hx hb d_Or_ruleHolds_14 rfl (lv_at hl 4 rfl) ?_
  refine lv_istore (lv' := [(8, .int p1), (7, .int 0), (6, .int 0), (5, .int 0), (0, .ref qO), (1, .int p1), (2, .int p2), (3, .long p3)]) hx hb d_Or_ruleHolds_15 hl (by decide) rfl (fun ls hl => ?_)
  exact w_Or_ruleHolds_17 S hr hlocks hE hA 2000 false false 0 p1 0 answ hM _ _ _ hP hD hS (lv_sub hl [4, 5, 6, 7, 3, 2, 1, 0] rfl)
def rm_Or_sign : Room := { frames := 1, cells := 0, slots := 0, locals := 21 }
set_option maxHeartbeats 4000000 in
set_option maxRecDepth 100000 in
theorem c_Or_sign (l : Launch) (D : va_G) (cT : Nat → ClassId) (qO : Nat) (qOa : Nat) (qT : Nat) (qTs : Nat) (qR : Nat) (qRs : Nat) (qP : Nat) (qPc : Nat) (qPl : Nat) (qPv : Nat) (qL : Nat) (qLj : Nat) (qF : Nat) (qFk : Nat) (qFf : Nat) (qFl : Nat) (done : Int32) (brd : Int32) (tup : Int32) (tdn : Int32) (askd : Int32) (answ : Nat → Int32) (tlen : Int32) (tpl : Int32) (tsg : Nat → Int32) (rlen : Int32) (rsz : Int32) (rsg : Nat → Int32) (psz : Int32) (pcd : Nat → Int32) (pld : Nat → Int32) (pct : Nat → Int64) (lpr : Int32) (lful : Bool) (ljn : Nat → Int32) (fsz : Int32) (fkd : Nat → Int32) (ffr : Nat → Int32) (fto : Nat → Int32) (p1 : Int32) {rr : Bool} {o_tlen : Int32} {o_tsg : Nat → Int32} (hM : m_Or_sign p1 tlen tsg = some (rr, o_tlen, o_tsg)) : Ct l y_Or_sign (WS y_Or_sign b_Or_sign 2 (some .boolean)) rm_Or_sign D cT [.ref qO, .int p1] [(qO, .inr (0, [.ref qT, .ref qR, .ref qP, .ref qL, .ref qF, .int done, .int brd, .int tup, .int tdn, .ref qOa, .int askd])), (qOa, .inl (cT 0, 149, .inl answ)), (qT, .inr (1, [.ref qTs, .int tlen, .int tpl])), (qTs, .inl (cT 2, 300, .inl tsg)), (qR, .inr (2, [.ref qRs, .int rlen, .int rsz])), (qRs, .inl (cT 2, 300, .inl rsg)), (qP, .inr (3, [.ref qPc, .ref qPl, .ref qPv, .int psz])), (qPc, .inl (cT 0, 12, .inl pcd)), (qPl, .inl (cT 0, 12, .inl pld)), (qPv, .inl (cT 1, 12, .inr (.inl pct))), (qL, .inr (4, [.ref qLj, .int lpr, .int (bI lful)])), (qLj, .inl (cT 0, 10, .inl ljn)), (qF, .inr (5, [.ref qFk, .ref qFf, .ref qFl, .int fsz])), (qFk, .inl (cT 0, 20, .inl fkd)), (qFf, .inl (cT 0, 20, .inl ffr)), (qFl, .inl (cT 0, 20, .inl fto))] (some (.int (bI rr))) [(qO, .inr (0, [.ref qT, .ref qR, .ref qP, .ref qL, .ref qF, .int done, .int brd, .int tup, .int tdn, .ref qOa, .int askd])), (qOa, .inl (cT 0, 149, .inl answ)), (qT, .inr (1, [.ref qTs, .int o_tlen, .int tpl])), (qTs, .inl (cT 2, 300, .inl o_tsg)), (qR, .inr (2, [.ref qRs, .int rlen, .int rsz])), (qRs, .inl (cT 2, 300, .inl rsg)), (qP, .inr (3, [.ref qPc, .ref qPl, .ref qPv, .int psz])), (qPc, .inl (cT 0, 12, .inl pcd)), (qPl, .inl (cT 0, 12, .inl pld)), (qPv, .inl (cT 1, 12, .inr (.inl pct))), (qL, .inr (4, [.ref qLj, .int lpr, .int (bI lful)])), (qLj, .inl (cT 0, 10, .inl ljn)), (qF, .inr (5, [.ref qFk, .ref qFf, .ref qFl, .int fsz])), (qFk, .inl (cT 0, 20, .inl fkd)), (qFf, .inl (cT 0, 20, .inl ffr)), (qFl, .inl (cT 0, 20, .inl fto))] 0 0 := by
  intro sz
  refine Met.ofW (cc := b_Or_sign) (maxL := 2) (ret := (some .boolean)) (by decide) rfl ?_
  intro p e s m args below meth c s₁ B hml hv
  obtain ⟨rfl, hsz, hP, hE, hD0⟩ := hv
  have hx := B.exec
  have hb := B.bytes
  have hr := B.returns
  have hts : ∀ w ∈ TB, w.before _ s = true := fun w h => atoms_spec (ws := WS y_Or_sign b_Or_sign 2 (some .boolean)) B.pre w (List.mem_cons_of_mem _ h)
  have hown : s.vm.findClass R_Or = some m.cls := findClass_of_methodNamed B.named
  have hlocks := B.notSynchronized
  have hK := hE.1
  have hN := hE.2
  subst hsz
  have hD := hD0.self (sz := s.heap.size)
  generalize hAe : va_A [(qO, .inr (0, [.ref qT, .ref qR, .ref qP, .ref qL, .ref qF, .int done, .int brd, .int tup, .int tdn, .ref qOa, .int askd])), (qOa, .inl (cT 0, 149, .inl answ)), (qT, .inr (1, [.ref qTs, .int tlen, .int tpl])), (qTs, .inl (cT 2, 300, .inl tsg)), (qR, .inr (2, [.ref qRs, .int rlen, .int rsz])), (qRs, .inl (cT 2, 300, .inl rsg)), (qP, .inr (3, [.ref qPc, .ref qPl, .ref qPv, .int psz])), (qPc, .inl (cT 0, 12, .inl pcd)), (qPl, .inl (cT 0, 12, .inl pld)), (qPv, .inl (cT 1, 12, .inr (.inl pct))), (qL, .inr (4, [.ref qLj, .int lpr, .int (bI lful)])), (qLj, .inl (cT 0, 10, .inl ljn)), (qF, .inr (5, [.ref qFk, .ref qFf, .ref qFl, .int fsz])), (qFk, .inl (cT 0, 20, .inl fkd)), (qFf, .inl (cT 0, 20, .inl ffr)), (qFl, .inl (cT 0, 20, .inl fto))] s.heap.size = A at hD ⊢
  have hA : ∀ q : Nat, s.heap.size ≤ q → A q := fun q h => by rw [← hAe]; exact Or.inr h
  have hS : va_S A s.heap s.heap [] := va_S.rf
  have hl := lv_entry ([.ref qO, .int p1]) (n := 2) (Nat.le_of_ble_eq_true rfl)
  rw [lg_entry_eq]
  generalize (lg_sl ([.ref qO, .int p1]) ++ List.replicate (2 - (lg_sl ([.ref qO, .int p1])).length) Slot.unset).toArray = ls at hl ⊢
  have hl : lv_has ls 2 [(0, .ref qO), (1, .int p1)] := hl
  have S : CallFix p m c b_Or_sign 2 s _ TB R_Or := ⟨hx, hb, hml, hown, hts⟩
  unfold m_Or_sign at hM
  refine lv_iload_n hx hb d_Or_sign_0 rfl (lv_at hl 1 rfl) ?_
  refine lv_bipush (v := 33) hx hb d_Or_sign_1 (by decide) ?_
  refine lv_icmp_lt (tgt := 25) hx hb d_Or_sign_3 (by decide) (fun c_3 => ?_) (fun c_3 => ?_)
  · have hM := itT hM c_3
    refine lv_iconst (v := 0) hx hb d_Or_sign_25 (by decide) ?_
    obtain ⟨eo0, eo1, eo2⟩ := so3T hM
    subst eo0
    subst eo1
    subst eo2
    exact rt_z S hr hlocks hP hD hS d_Or_sign_26
  · have hM := itF hM c_3
    refine lv_iload_n hx hb d_Or_sign_6 rfl (lv_at hl 1 rfl) ?_
    refine lv_bipush (v := 126) hx hb d_Or_sign_7 (by decide) ?_
    refine lv_icmp_gt (tgt := 25) hx hb d_Or_sign_9 (by decide) (fun c_9 => ?_) (fun c_9 => ?_)
    · have hM := itT hM c_9
      refine lv_iconst (v := 0) hx hb d_Or_sign_25 (by decide) ?_
      obtain ⟨eo0, eo1, eo2⟩ := so3T hM
      subst eo0
      subst eo1
      subst eo2
      exact rt_z S hr hlocks hP hD hS d_Or_sign_26
    · have hM := itF hM c_9
      refine lv_aload_n hx hb d_Or_sign_12 rfl (lv_at hl 0 rfl) ?_
      refine va_get (D := D) (ci := 0) (v := .ref qT) (C := R_Or) (T := F_Or) (N := 11) hx hb hts i_Or hown hK hP 0 rfl rfl 0 (by decide) (hts _ iw_fe8faaa1) (fun _ h9 => h9) rfl d_Or_sign_13 ?_
      refine va_getN (D := D) (ci := 1) (v := .int tlen) (C := R_Text) (T := F_Text) (N := 3) hx hb hts i_Text hown hK hP 2 rfl rfl 1 (by decide) (va_Nw.use rfl (hN _ nl_0894c6ac)) (fun _ h9 => h9) rfl d_Or_sign_16 ?_
      refine lv_sipush (v := 300) hx hb d_Or_sign_19 (by decide) ?_
      refine lv_icmp_lt (tgt := 27) hx hb d_Or_sign_22 (by decide) (fun c_22 => ?_) (fun c_22 => ?_)
      · have hM := itT hM c_22
        refine lv_aload_n hx hb d_Or_sign_27 rfl (lv_at hl 0 rfl) ?_
        refine va_get (D := D) (ci := 0) (v := .ref qT) (C := R_Or) (T := F_Or) (N := 11) hx hb hts i_Or hown hK hP 0 rfl rfl 0 (by decide) (hts _ iw_fe8faaa1) (fun _ h9 => h9) rfl d_Or_sign_28 ?_
        refine lv_iload_n hx hb d_Or_sign_31 rfl (lv_at hl 1 rfl) ?_
        refine lv_i2c hx hb d_Or_sign_32 rfl ?_
        obtain ⟨tlen_33, tsg_33, hc_33, hM⟩ := bd2T hM
        refine ca_V (As := [.int (((p1).toUInt32 % 65536).toInt32)]) (rest := []) (wr := [(qO, .inr (0, [.ref qT, .ref qR, .ref qP, .ref qL, .ref qF, .int done, .int brd, .int tup, .int tdn, .ref qOa, .int askd])), (qOa, .inl (cT 0, 149, .inl answ)), (qR, .inr (2, [.ref qRs, .int rlen, .int rsz])), (qRs, .inl (cT 2, 300, .inl rsg)), (qP, .inr (3, [.ref qPc, .ref qPl, .ref qPv, .int psz])), (qPc, .inl (cT 0, 12, .inl pcd)), (qPl, .inl (cT 0, 12, .inl pld)), (qPv, .inl (cT 1, 12, .inr (.inl pct))), (qL, .inr (4, [.ref qLj, .int lpr, .int (bI lful)])), (qLj, .inl (cT 0, 10, .inl ljn)), (qF, .inr (5, [.ref qFk, .ref qFf, .ref qFl, .int fsz])), (qFk, .inl (cT 0, 20, .inl fkd)), (qFf, .inl (cT 0, 20, .inl ffr)), (qFl, .inl (cT 0, 20, .inl fto))]) (w2 := [(qO, .inr (0, [.ref qT, .ref qR, .ref qP, .ref qL, .ref qF, .int done, .int brd, .int tup, .int tdn, .ref qOa, .int askd])), (qOa, .inl (cT 0, 149, .inl answ)), (qT, .inr (1, [.ref qTs, .int tlen_33, .int tpl])), (qTs, .inl (cT 2, 300, .inl tsg_33)), (qR, .inr (2, [.ref qRs, .int rlen, .int rsz])), (qRs, .inl (cT 2, 300, .inl rsg)), (qP, .inr (3, [.ref qPc, .ref qPl, .ref qPv, .int psz])), (qPc, .inl (cT 0, 12, .inl pcd)), (qPl, .inl (cT 0, 12, .inl pld)), (qPv, .inl (cT 1, 12, .inr (.inl pct))), (qL, .inr (4, [.ref qLj, .int lpr, .int (bI lful)])), (qLj, .inl (cT 0, 10, .inl ljn)), (qF, .inr (5, [.ref qFk, .ref qFf, .ref qFl, .int fsz])), (qFk, .inl (cT 0, 20, .inl fkd)), (qFf, .inl (cT 0, 20, .inl ffr)), (qFl, .inl (cT 0, 20, .inl fto))]) S hE (c_Text_add l D cT qT qTs tlen tpl tsg (((p1).toUInt32 % 65536).toInt32) hc_33) gw_a819cac7 rfl rfl ⟨Nat.le_of_ble_eq_true rfl, Nat.le_of_ble_eq_true rfl⟩ (ci := 1) rfl rfl (k0 := 0) rfl rfl hl.1 rfl (Nat.le_of_ble_eq_true rfl) d_Or_sign_33 ⟨Nat.zero_le _, Nat.zero_le _⟩ hP hD hS hA [2, 3] [0, 1, 4, 5, 6, 7, 8, 9, 10, 11, 12, 13, 14, 15] [0, 1, 14, 15, 2, 3, 4, 5, 6, 7, 8, 9, 10, 11, 12, 13] rfl rfl (by decide) (by decide) rfl (by decide) (by decide) (fun H locs hP hD hS => ?_)
        refine lv_iconst (v := 1) hx hb d_Or_sign_36 (by decide) ?_
        obtain ⟨eo0, eo1, eo2⟩ := so3T hM
        subst eo0
        subst eo1
        subst eo2
        exact rt_z S hr hlocks hP hD hS d_Or_sign_37
      · have hM := itF hM c_22
        refine lv_iconst (v := 0) hx hb d_Or_sign_25 (by decide) ?_
        obtain ⟨eo0, eo1, eo2⟩ := so3T hM
        subst eo0
        subst eo1
        subst eo2
        exact rt_z S hr hlocks hP hD hS d_Or_sign_26
def rm_Or_read : Room := { frames := 6, cells := 0, slots := 0, locals := 127 }
set_option maxHeartbeats 4000000 in
set_option maxRecDepth 100000 in
theorem c_Or_read (l : Launch) (D : va_G) (cT : Nat → ClassId) (qO : Nat) (qOa : Nat) (qT : Nat) (qTs : Nat) (qR : Nat) (qRs : Nat) (qP : Nat) (qPc : Nat) (qPl : Nat) (qPv : Nat) (qL : Nat) (qLj : Nat) (qF : Nat) (qFk : Nat) (qFf : Nat) (qFl : Nat) (done : Int32) (brd : Int32) (tup : Int32) (tdn : Int32) (askd : Int32) (answ : Nat → Int32) (tlen : Int32) (tpl : Int32) (tsg : Nat → Int32) (rlen : Int32) (rsz : Int32) (rsg : Nat → Int32) (psz : Int32) (pcd : Nat → Int32) (pld : Nat → Int32) (pct : Nat → Int64) (lpr : Int32) (lful : Bool) (ljn : Nat → Int32) (fsz : Int32) (fkd : Nat → Int32) (ffr : Nat → Int32) (fto : Nat → Int32) {rr : Int32} {o_tlen : Int32} {o_tpl : Int32} {o_rlen : Int32} {o_rsz : Int32} {o_rsg : Nat → Int32} (hM : m_Or_read tsg tlen tpl rlen rsz rsg = some (rr, o_tlen, o_tpl, o_rlen, o_rsz, o_rsg)) : Ct l y_Or_read (WS y_Or_read b_Or_read 2 (some .int)) rm_Or_read D cT [.ref qO] [(qO, .inr (0, [.ref qT, .ref qR, .ref qP, .ref qL, .ref qF, .int done, .int brd, .int tup, .int tdn, .ref qOa, .int askd])), (qOa, .inl (cT 0, 149, .inl answ)), (qT, .inr (1, [.ref qTs, .int tlen, .int tpl])), (qTs, .inl (cT 2, 300, .inl tsg)), (qR, .inr (2, [.ref qRs, .int rlen, .int rsz])), (qRs, .inl (cT 2, 300, .inl rsg)), (qP, .inr (3, [.ref qPc, .ref qPl, .ref qPv, .int psz])), (qPc, .inl (cT 0, 12, .inl pcd)), (qPl, .inl (cT 0, 12, .inl pld)), (qPv, .inl (cT 1, 12, .inr (.inl pct))), (qL, .inr (4, [.ref qLj, .int lpr, .int (bI lful)])), (qLj, .inl (cT 0, 10, .inl ljn)), (qF, .inr (5, [.ref qFk, .ref qFf, .ref qFl, .int fsz])), (qFk, .inl (cT 0, 20, .inl fkd)), (qFf, .inl (cT 0, 20, .inl ffr)), (qFl, .inl (cT 0, 20, .inl fto))] (some (.int rr)) [(qO, .inr (0, [.ref qT, .ref qR, .ref qP, .ref qL, .ref qF, .int done, .int brd, .int tup, .int tdn, .ref qOa, .int askd])), (qOa, .inl (cT 0, 149, .inl answ)), (qT, .inr (1, [.ref qTs, .int o_tlen, .int o_tpl])), (qTs, .inl (cT 2, 300, .inl tsg)), (qR, .inr (2, [.ref qRs, .int o_rlen, .int o_rsz])), (qRs, .inl (cT 2, 300, .inl o_rsg)), (qP, .inr (3, [.ref qPc, .ref qPl, .ref qPv, .int psz])), (qPc, .inl (cT 0, 12, .inl pcd)), (qPl, .inl (cT 0, 12, .inl pld)), (qPv, .inl (cT 1, 12, .inr (.inl pct))), (qL, .inr (4, [.ref qLj, .int lpr, .int (bI lful)])), (qLj, .inl (cT 0, 10, .inl ljn)), (qF, .inr (5, [.ref qFk, .ref qFf, .ref qFl, .int fsz])), (qFk, .inl (cT 0, 20, .inl fkd)), (qFf, .inl (cT 0, 20, .inl ffr)), (qFl, .inl (cT 0, 20, .inl fto))] 0 0 := by
  intro sz
  refine Met.ofW (cc := b_Or_read) (maxL := 2) (ret := (some .int)) (by decide) rfl ?_
  intro p e s m args below meth c s₁ B hml hv
  obtain ⟨rfl, hsz, hP, hE, hD0⟩ := hv
  have hx := B.exec
  have hb := B.bytes
  have hr := B.returns
  have hts : ∀ w ∈ TB, w.before _ s = true := fun w h => atoms_spec (ws := WS y_Or_read b_Or_read 2 (some .int)) B.pre w (List.mem_cons_of_mem _ h)
  have hown : s.vm.findClass R_Or = some m.cls := findClass_of_methodNamed B.named
  have hlocks := B.notSynchronized
  have hK := hE.1
  have hN := hE.2
  subst hsz
  have hD := hD0.self (sz := s.heap.size)
  generalize hAe : va_A [(qO, .inr (0, [.ref qT, .ref qR, .ref qP, .ref qL, .ref qF, .int done, .int brd, .int tup, .int tdn, .ref qOa, .int askd])), (qOa, .inl (cT 0, 149, .inl answ)), (qT, .inr (1, [.ref qTs, .int tlen, .int tpl])), (qTs, .inl (cT 2, 300, .inl tsg)), (qR, .inr (2, [.ref qRs, .int rlen, .int rsz])), (qRs, .inl (cT 2, 300, .inl rsg)), (qP, .inr (3, [.ref qPc, .ref qPl, .ref qPv, .int psz])), (qPc, .inl (cT 0, 12, .inl pcd)), (qPl, .inl (cT 0, 12, .inl pld)), (qPv, .inl (cT 1, 12, .inr (.inl pct))), (qL, .inr (4, [.ref qLj, .int lpr, .int (bI lful)])), (qLj, .inl (cT 0, 10, .inl ljn)), (qF, .inr (5, [.ref qFk, .ref qFf, .ref qFl, .int fsz])), (qFk, .inl (cT 0, 20, .inl fkd)), (qFf, .inl (cT 0, 20, .inl ffr)), (qFl, .inl (cT 0, 20, .inl fto))] s.heap.size = A at hD ⊢
  have hA : ∀ q : Nat, s.heap.size ≤ q → A q := fun q h => by rw [← hAe]; exact Or.inr h
  have hS : va_S A s.heap s.heap [] := va_S.rf
  have hl := lv_entry ([.ref qO]) (n := 2) (Nat.le_of_ble_eq_true rfl)
  rw [lg_entry_eq]
  generalize (lg_sl ([.ref qO]) ++ List.replicate (2 - (lg_sl ([.ref qO])).length) Slot.unset).toArray = ls at hl ⊢
  have hl : lv_has ls 2 [(0, .ref qO)] := hl
  have S : CallFix p m c b_Or_read 2 s _ TB R_Or := ⟨hx, hb, hml, hown, hts⟩
  unfold m_Or_read at hM
  refine lv_aload_n hx hb d_Or_read_0 rfl (lv_at hl 0 rfl) ?_
  refine va_get (D := D) (ci := 0) (v := .ref qT) (C := R_Or) (T := F_Or) (N := 11) hx hb hts i_Or hown hK hP 0 rfl rfl 0 (by decide) (hts _ iw_fe8faaa1) (fun _ h9 => h9) rfl d_Or_read_1 ?_
  obtain ⟨r_4, tpl_4, hc_4, hM⟩ := bd2T hM
  refine ca_V (As := []) (rest := []) (wr := [(qO, .inr (0, [.ref qT, .ref qR, .ref qP, .ref qL, .ref qF, .int done, .int brd, .int tup, .int tdn, .ref qOa, .int askd])), (qOa, .inl (cT 0, 149, .inl answ)), (qR, .inr (2, [.ref qRs, .int rlen, .int rsz])), (qRs, .inl (cT 2, 300, .inl rsg)), (qP, .inr (3, [.ref qPc, .ref qPl, .ref qPv, .int psz])), (qPc, .inl (cT 0, 12, .inl pcd)), (qPl, .inl (cT 0, 12, .inl pld)), (qPv, .inl (cT 1, 12, .inr (.inl pct))), (qL, .inr (4, [.ref qLj, .int lpr, .int (bI lful)])), (qLj, .inl (cT 0, 10, .inl ljn)), (qF, .inr (5, [.ref qFk, .ref qFf, .ref qFl, .int fsz])), (qFk, .inl (cT 0, 20, .inl fkd)), (qFf, .inl (cT 0, 20, .inl ffr)), (qFl, .inl (cT 0, 20, .inl fto))]) (w2 := [(qO, .inr (0, [.ref qT, .ref qR, .ref qP, .ref qL, .ref qF, .int done, .int brd, .int tup, .int tdn, .ref qOa, .int askd])), (qOa, .inl (cT 0, 149, .inl answ)), (qT, .inr (1, [.ref qTs, .int tlen, .int tpl_4])), (qTs, .inl (cT 2, 300, .inl tsg)), (qR, .inr (2, [.ref qRs, .int rlen, .int rsz])), (qRs, .inl (cT 2, 300, .inl rsg)), (qP, .inr (3, [.ref qPc, .ref qPl, .ref qPv, .int psz])), (qPc, .inl (cT 0, 12, .inl pcd)), (qPl, .inl (cT 0, 12, .inl pld)), (qPv, .inl (cT 1, 12, .inr (.inl pct))), (qL, .inr (4, [.ref qLj, .int lpr, .int (bI lful)])), (qLj, .inl (cT 0, 10, .inl ljn)), (qF, .inr (5, [.ref qFk, .ref qFf, .ref qFl, .int fsz])), (qFk, .inl (cT 0, 20, .inl fkd)), (qFf, .inl (cT 0, 20, .inl ffr)), (qFl, .inl (cT 0, 20, .inl fto))]) S hE (c_Text_rowsOrWrongPlace l D cT qT qTs tlen tpl tsg hc_4) gw_61af03ce rfl rfl ⟨Nat.le_of_ble_eq_true rfl, Nat.le_of_ble_eq_true rfl⟩ (ci := 1) rfl rfl (k0 := 0) rfl rfl hl.1 rfl (Nat.le_of_ble_eq_true rfl) d_Or_read_4 ⟨Nat.zero_le _, Nat.zero_le _⟩ hP hD hS hA [2, 3] [0, 1, 4, 5, 6, 7, 8, 9, 10, 11, 12, 13, 14, 15] [0, 1, 14, 15, 2, 3, 4, 5, 6, 7, 8, 9, 10, 11, 12, 13] rfl rfl (by decide) (by decide) rfl (by decide) (by decide) (fun H locs hP hD hS => ?_)
  refine lv_istore_n (lv' := [(1, .int r_4), (0, .ref qO)]) hx hb d_Or_read_7 rfl hl (by decide) rfl (fun ls hl => ?_)
  refine lv_iload_n hx hb d_Or_read_8 rfl (lv_at hl 0 rfl) ?_
  refine lv_if_le (tgt := 34) hx hb d_Or_read_9 (by decide) (fun c_9 => ?_) (fun c_9 => ?_)
  · have hM := itT hM c_9
    refine lv_aload_n hx hb d_Or_read_34 rfl (lv_at hl 1 rfl) ?_
    refine va_get (D := D) (ci := 0) (v := .ref qT) (C := R_Or) (T := F_Or) (N := 11) hx hb hts i_Or hown hK hP 0 rfl rfl 0 (by decide) (hts _ iw_fe8faaa1) (fun _ h9 => h9) rfl d_Or_read_35 ?_
    refine lv_iconst (v := 0) hx hb d_Or_read_38 (by decide) ?_
    refine va_putN (D := D) (ci := 1) (v := .int 0) (ty := .int) (C := R_Text) (T := F_Text) (N := 3) hx hb hts i_Text t_Text t_Text_ok n_Text hown hK hP hD hS 2 rfl rfl 1 (by decide) (va_Nw.use rfl (hN _ nl_0894c6ac)) (fun _ h9 => h9) rfl (by decide +kernel) rfl rfl (Nat.le_of_ble_eq_true rfl) d_Or_read_39 (fun H locs hP hD hS => ?_)
    have hP : va_P D classes [(qO, .inr (0, [.ref qT, .ref qR, .ref qP, .ref qL, .ref qF, .int done, .int brd, .int tup, .int tdn, .ref qOa, .int askd])), (qOa, .inl (cT 0, 149, .inl answ)), (qT, .inr (1, [.ref qTs, .int 0, .int tpl_4])), (qTs, .inl (cT 2, 300, .inl tsg)), (qR, .inr (2, [.ref qRs, .int rlen, .int rsz])), (qRs, .inl (cT 2, 300, .inl rsg)), (qP, .inr (3, [.ref qPc, .ref qPl, .ref qPv, .int psz])), (qPc, .inl (cT 0, 12, .inl pcd)), (qPl, .inl (cT 0, 12, .inl pld)), (qPv, .inl (cT 1, 12, .inr (.inl pct))), (qL, .inr (4, [.ref qLj, .int lpr, .int (bI lful)])), (qLj, .inl (cT 0, 10, .inl ljn)), (qF, .inr (5, [.ref qFk, .ref qFf, .ref qFl, .int fsz])), (qFk, .inl (cT 0, 20, .inl fkd)), (qFf, .inl (cT 0, 20, .inl ffr)), (qFl, .inl (cT 0, 20, .inl fto))] H := hP
    have hD : va_D A [(qO, .inr (0, [.ref qT, .ref qR, .ref qP, .ref qL, .ref qF, .int done, .int brd, .int tup, .int tdn, .ref qOa, .int askd])), (qOa, .inl (cT 0, 149, .inl answ)), (qT, .inr (1, [.ref qTs, .int 0, .int tpl_4])), (qTs, .inl (cT 2, 300, .inl tsg)), (qR, .inr (2, [.ref qRs, .int rlen, .int rsz])), (qRs, .inl (cT 2, 300, .inl rsg)), (qP, .inr (3, [.ref qPc, .ref qPl, .ref qPv, .int psz])), (qPc, .inl (cT 0, 12, .inl pcd)), (qPl, .inl (cT 0, 12, .inl pld)), (qPv, .inl (cT 1, 12, .inr (.inl pct))), (qL, .inr (4, [.ref qLj, .int lpr, .int (bI lful)])), (qLj, .inl (cT 0, 10, .inl ljn)), (qF, .inr (5, [.ref qFk, .ref qFf, .ref qFl, .int fsz])), (qFk, .inl (cT 0, 20, .inl fkd)), (qFf, .inl (cT 0, 20, .inl ffr)), (qFl, .inl (cT 0, 20, .inl fto))] := hD
    refine lv_iload_n hx hb d_Or_read_42 rfl (lv_at hl 0 rfl) ?_
    obtain ⟨eo0, eo1, eo2, eo3, eo4, eo5⟩ := so6T hM
    subst eo0
    subst eo1
    subst eo2
    subst eo3
    subst eo4
    subst eo5
    exact rt_i S hr hlocks hP hD hS d_Or_read_43
  · have hM := itF hM c_9
    refine lv_aload_n hx hb d_Or_read_12 rfl (lv_at hl 1 rfl) ?_
    refine va_get (D := D) (ci := 0) (v := .ref qR) (C := R_Or) (T := F_Or) (N := 11) hx hb hts i_Or hown hK hP 0 rfl rfl 1 (by decide) (hts _ iw_1ffb187c) (fun _ h9 => h9) rfl d_Or_read_13 ?_
    refine lv_aload_n hx hb d_Or_read_16 rfl (lv_at hl 1 rfl) ?_
    refine va_get (D := D) (ci := 0) (v := .ref qT) (C := R_Or) (T := F_Or) (N := 11) hx hb hts i_Or hown hK hP 0 rfl rfl 0 (by decide) (hts _ iw_fe8faaa1) (fun _ h9 => h9) rfl d_Or_read_17 ?_
    refine va_getN (D := D) (ci := 1) (v := .ref qTs) (C := R_Text) (T := F_Text) (N := 3) hx hb hts i_Text hown hK hP 2 rfl rfl 0 (by decide) (va_Nw.use rfl (hN _ nl_4f868958)) (fun _ h9 => h9) rfl d_Or_read_20 ?_
    refine lv_aload_n hx hb d_Or_read_23 rfl (lv_at hl 1 rfl) ?_
    refine va_get (D := D) (ci := 0) (v := .ref qT) (C := R_Or) (T := F_Or) (N := 11) hx hb hts i_Or hown hK hP 0 rfl rfl 0 (by decide) (hts _ iw_fe8faaa1) (fun _ h9 => h9) rfl d_Or_read_24 ?_
    refine va_getN (D := D) (ci := 1) (v := .int tlen) (C := R_Text) (T := F_Text) (N := 3) hx hb hts i_Text hown hK hP 2 rfl rfl 1 (by decide) (va_Nw.use rfl (hN _ nl_0894c6ac)) (fun _ h9 => h9) rfl d_Or_read_27 ?_
    refine lv_iload_n hx hb d_Or_read_30 rfl (lv_at hl 0 rfl) ?_
    obtain ⟨rlen_31, rsz_31, rsg_31, hc_31, hM⟩ := bd3T hM
    refine ca_V (As := [.ref qTs, .int tlen, .int r_4]) (rest := []) (wr := [(qO, .inr (0, [.ref qT, .ref qR, .ref qP, .ref qL, .ref qF, .int done, .int brd, .int tup, .int tdn, .ref qOa, .int askd])), (qOa, .inl (cT 0, 149, .inl answ)), (qT, .inr (1, [.ref qTs, .int tlen, .int tpl_4])), (qP, .inr (3, [.ref qPc, .ref qPl, .ref qPv, .int psz])), (qPc, .inl (cT 0, 12, .inl pcd)), (qPl, .inl (cT 0, 12, .inl pld)), (qPv, .inl (cT 1, 12, .inr (.inl pct))), (qL, .inr (4, [.ref qLj, .int lpr, .int (bI lful)])), (qLj, .inl (cT 0, 10, .inl ljn)), (qF, .inr (5, [.ref qFk, .ref qFf, .ref qFl, .int fsz])), (qFk, .inl (cT 0, 20, .inl fkd)), (qFf, .inl (cT 0, 20, .inl ffr)), (qFl, .inl (cT 0, 20, .inl fto))]) (w2 := [(qO, .inr (0, [.ref qT, .ref qR, .ref qP, .ref qL, .ref qF, .int done, .int brd, .int tup, .int tdn, .ref qOa, .int askd])), (qOa, .inl (cT 0, 149, .inl answ)), (qT, .inr (1, [.ref qTs, .int tlen, .int tpl_4])), (qTs, .inl (cT 2, 300, .inl tsg)), (qR, .inr (2, [.ref qRs, .int rlen_31, .int rsz_31])), (qRs, .inl (cT 2, 300, .inl rsg_31)), (qP, .inr (3, [.ref qPc, .ref qPl, .ref qPv, .int psz])), (qPc, .inl (cT 0, 12, .inl pcd)), (qPl, .inl (cT 0, 12, .inl pld)), (qPv, .inl (cT 1, 12, .inr (.inl pct))), (qL, .inr (4, [.ref qLj, .int lpr, .int (bI lful)])), (qLj, .inl (cT 0, 10, .inl ljn)), (qF, .inr (5, [.ref qFk, .ref qFf, .ref qFl, .int fsz])), (qFk, .inl (cT 0, 20, .inl fkd)), (qFf, .inl (cT 0, 20, .inl ffr)), (qFl, .inl (cT 0, 20, .inl fto))]) S hE (c_Rows_replace l D cT qR qRs qTs rlen rsz rsg tsg tlen r_4 hc_31) gw_6a9dd894 rfl rfl ⟨Nat.le_of_ble_eq_true rfl, Nat.le_of_ble_eq_true rfl⟩ (ci := 2) rfl rfl (k0 := 0) rfl rfl hl.1 rfl (Nat.le_of_ble_eq_true rfl) d_Or_read_31 ⟨Nat.zero_le _, Nat.zero_le _⟩ hP hD hS hA [4, 5, 3] [0, 1, 2, 6, 7, 8, 9, 10, 11, 12, 13, 14, 15] [0, 1, 2, 15, 13, 14, 3, 4, 5, 6, 7, 8, 9, 10, 11, 12] rfl rfl (by decide) (by decide) rfl (by decide) (by decide) (fun H locs hP hD hS => ?_)
    refine lv_aload_n hx hb d_Or_read_34 rfl (lv_at hl 1 rfl) ?_
    refine va_get (D := D) (ci := 0) (v := .ref qT) (C := R_Or) (T := F_Or) (N := 11) hx hb hts i_Or hown hK hP 0 rfl rfl 0 (by decide) (hts _ iw_fe8faaa1) (fun _ h9 => h9) rfl d_Or_read_35 ?_
    refine lv_iconst (v := 0) hx hb d_Or_read_38 (by decide) ?_
    refine va_putN (D := D) (ci := 1) (v := .int 0) (ty := .int) (C := R_Text) (T := F_Text) (N := 3) hx hb hts i_Text t_Text t_Text_ok n_Text hown hK hP hD hS 2 rfl rfl 1 (by decide) (va_Nw.use rfl (hN _ nl_0894c6ac)) (fun _ h9 => h9) rfl (by decide +kernel) rfl rfl (Nat.le_of_ble_eq_true rfl) d_Or_read_39 (fun H locs hP hD hS => ?_)
    have hP : va_P D classes [(qO, .inr (0, [.ref qT, .ref qR, .ref qP, .ref qL, .ref qF, .int done, .int brd, .int tup, .int tdn, .ref qOa, .int askd])), (qOa, .inl (cT 0, 149, .inl answ)), (qT, .inr (1, [.ref qTs, .int 0, .int tpl_4])), (qTs, .inl (cT 2, 300, .inl tsg)), (qR, .inr (2, [.ref qRs, .int rlen_31, .int rsz_31])), (qRs, .inl (cT 2, 300, .inl rsg_31)), (qP, .inr (3, [.ref qPc, .ref qPl, .ref qPv, .int psz])), (qPc, .inl (cT 0, 12, .inl pcd)), (qPl, .inl (cT 0, 12, .inl pld)), (qPv, .inl (cT 1, 12, .inr (.inl pct))), (qL, .inr (4, [.ref qLj, .int lpr, .int (bI lful)])), (qLj, .inl (cT 0, 10, .inl ljn)), (qF, .inr (5, [.ref qFk, .ref qFf, .ref qFl, .int fsz])), (qFk, .inl (cT 0, 20, .inl fkd)), (qFf, .inl (cT 0, 20, .inl ffr)), (qFl, .inl (cT 0, 20, .inl fto))] H := hP
    have hD : va_D A [(qO, .inr (0, [.ref qT, .ref qR, .ref qP, .ref qL, .ref qF, .int done, .int brd, .int tup, .int tdn, .ref qOa, .int askd])), (qOa, .inl (cT 0, 149, .inl answ)), (qT, .inr (1, [.ref qTs, .int 0, .int tpl_4])), (qTs, .inl (cT 2, 300, .inl tsg)), (qR, .inr (2, [.ref qRs, .int rlen_31, .int rsz_31])), (qRs, .inl (cT 2, 300, .inl rsg_31)), (qP, .inr (3, [.ref qPc, .ref qPl, .ref qPv, .int psz])), (qPc, .inl (cT 0, 12, .inl pcd)), (qPl, .inl (cT 0, 12, .inl pld)), (qPv, .inl (cT 1, 12, .inr (.inl pct))), (qL, .inr (4, [.ref qLj, .int lpr, .int (bI lful)])), (qLj, .inl (cT 0, 10, .inl ljn)), (qF, .inr (5, [.ref qFk, .ref qFf, .ref qFl, .int fsz])), (qFk, .inl (cT 0, 20, .inl fkd)), (qFf, .inl (cT 0, 20, .inl ffr)), (qFl, .inl (cT 0, 20, .inl fto))] := hD
    refine lv_iload_n hx hb d_Or_read_42 rfl (lv_at hl 0 rfl) ?_
    obtain ⟨eo0, eo1, eo2, eo3, eo4, eo5⟩ := so6T hM
    subst eo0
    subst eo1
    subst eo2
    subst eo3
    subst eo4
    subst eo5
    exact rt_i S hr hlocks hP hD hS d_Or_read_43
def rm_Or_clear : Room := { frames := 1, cells := 0, slots := 0, locals := 21 }
set_option maxHeartbeats 4000000 in
set_option maxRecDepth 100000 in
theorem c_Or_clear (l : Launch) (D : va_G) (cT : Nat → ClassId) (qO : Nat) (qOa : Nat) (qT : Nat) (qTs : Nat) (qR : Nat) (qRs : Nat) (qP : Nat) (qPc : Nat) (qPl : Nat) (qPv : Nat) (qL : Nat) (qLj : Nat) (qF : Nat) (qFk : Nat) (qFf : Nat) (qFl : Nat) (done : Int32) (brd : Int32) (tup : Int32) (tdn : Int32) (askd : Int32) (answ : Nat → Int32) (tlen : Int32) (tpl : Int32) (tsg : Nat → Int32) (rlen : Int32) (rsz : Int32) (rsg : Nat → Int32) (psz : Int32) (pcd : Nat → Int32) (pld : Nat → Int32) (pct : Nat → Int64) (lpr : Int32) (lful : Bool) (ljn : Nat → Int32) (fsz : Int32) (fkd : Nat → Int32) (ffr : Nat → Int32) (fto : Nat → Int32) {rr : Int32} {o_done : Int32} {o_psz : Int32} (hM : m_Or_clear done psz = some (rr, o_done, o_psz)) : Ct l y_Or_clear (WS y_Or_clear b_Or_clear 1 (some .int)) rm_Or_clear D cT [.ref qO] [(qO, .inr (0, [.ref qT, .ref qR, .ref qP, .ref qL, .ref qF, .int done, .int brd, .int tup, .int tdn, .ref qOa, .int askd])), (qOa, .inl (cT 0, 149, .inl answ)), (qT, .inr (1, [.ref qTs, .int tlen, .int tpl])), (qTs, .inl (cT 2, 300, .inl tsg)), (qR, .inr (2, [.ref qRs, .int rlen, .int rsz])), (qRs, .inl (cT 2, 300, .inl rsg)), (qP, .inr (3, [.ref qPc, .ref qPl, .ref qPv, .int psz])), (qPc, .inl (cT 0, 12, .inl pcd)), (qPl, .inl (cT 0, 12, .inl pld)), (qPv, .inl (cT 1, 12, .inr (.inl pct))), (qL, .inr (4, [.ref qLj, .int lpr, .int (bI lful)])), (qLj, .inl (cT 0, 10, .inl ljn)), (qF, .inr (5, [.ref qFk, .ref qFf, .ref qFl, .int fsz])), (qFk, .inl (cT 0, 20, .inl fkd)), (qFf, .inl (cT 0, 20, .inl ffr)), (qFl, .inl (cT 0, 20, .inl fto))] (some (.int rr)) [(qO, .inr (0, [.ref qT, .ref qR, .ref qP, .ref qL, .ref qF, .int o_done, .int brd, .int tup, .int tdn, .ref qOa, .int askd])), (qOa, .inl (cT 0, 149, .inl answ)), (qT, .inr (1, [.ref qTs, .int tlen, .int tpl])), (qTs, .inl (cT 2, 300, .inl tsg)), (qR, .inr (2, [.ref qRs, .int rlen, .int rsz])), (qRs, .inl (cT 2, 300, .inl rsg)), (qP, .inr (3, [.ref qPc, .ref qPl, .ref qPv, .int o_psz])), (qPc, .inl (cT 0, 12, .inl pcd)), (qPl, .inl (cT 0, 12, .inl pld)), (qPv, .inl (cT 1, 12, .inr (.inl pct))), (qL, .inr (4, [.ref qLj, .int lpr, .int (bI lful)])), (qLj, .inl (cT 0, 10, .inl ljn)), (qF, .inr (5, [.ref qFk, .ref qFf, .ref qFl, .int fsz])), (qFk, .inl (cT 0, 20, .inl fkd)), (qFf, .inl (cT 0, 20, .inl ffr)), (qFl, .inl (cT 0, 20, .inl fto))] 0 0 := by
  intro sz
  refine Met.ofW (cc := b_Or_clear) (maxL := 1) (ret := (some .int)) (by decide) rfl ?_
  intro p e s m args below meth c s₁ B hml hv
  obtain ⟨rfl, hsz, hP, hE, hD0⟩ := hv
  have hx := B.exec
  have hb := B.bytes
  have hr := B.returns
  have hts : ∀ w ∈ TB, w.before _ s = true := fun w h => atoms_spec (ws := WS y_Or_clear b_Or_clear 1 (some .int)) B.pre w (List.mem_cons_of_mem _ h)
  have hown : s.vm.findClass R_Or = some m.cls := findClass_of_methodNamed B.named
  have hlocks := B.notSynchronized
  have hK := hE.1
  have hN := hE.2
  subst hsz
  have hD := hD0.self (sz := s.heap.size)
  generalize hAe : va_A [(qO, .inr (0, [.ref qT, .ref qR, .ref qP, .ref qL, .ref qF, .int done, .int brd, .int tup, .int tdn, .ref qOa, .int askd])), (qOa, .inl (cT 0, 149, .inl answ)), (qT, .inr (1, [.ref qTs, .int tlen, .int tpl])), (qTs, .inl (cT 2, 300, .inl tsg)), (qR, .inr (2, [.ref qRs, .int rlen, .int rsz])), (qRs, .inl (cT 2, 300, .inl rsg)), (qP, .inr (3, [.ref qPc, .ref qPl, .ref qPv, .int psz])), (qPc, .inl (cT 0, 12, .inl pcd)), (qPl, .inl (cT 0, 12, .inl pld)), (qPv, .inl (cT 1, 12, .inr (.inl pct))), (qL, .inr (4, [.ref qLj, .int lpr, .int (bI lful)])), (qLj, .inl (cT 0, 10, .inl ljn)), (qF, .inr (5, [.ref qFk, .ref qFf, .ref qFl, .int fsz])), (qFk, .inl (cT 0, 20, .inl fkd)), (qFf, .inl (cT 0, 20, .inl ffr)), (qFl, .inl (cT 0, 20, .inl fto))] s.heap.size = A at hD ⊢
  have hA : ∀ q : Nat, s.heap.size ≤ q → A q := fun q h => by rw [← hAe]; exact Or.inr h
  have hS : va_S A s.heap s.heap [] := va_S.rf
  have hl := lv_entry ([.ref qO]) (n := 1) (Nat.le_of_ble_eq_true rfl)
  rw [lg_entry_eq]
  generalize (lg_sl ([.ref qO]) ++ List.replicate (1 - (lg_sl ([.ref qO])).length) Slot.unset).toArray = ls at hl ⊢
  have hl : lv_has ls 1 [(0, .ref qO)] := hl
  have S : CallFix p m c b_Or_clear 1 s _ TB R_Or := ⟨hx, hb, hml, hown, hts⟩
  unfold m_Or_clear at hM
  refine lv_aload_n hx hb d_Or_clear_0 rfl (lv_at hl 0 rfl) ?_
  refine lv_iconst (v := 0) hx hb d_Or_clear_1 (by decide) ?_
  refine va_put (D := D) (ci := 0) (v := .int 0) (ty := .int) (C := R_Or) (T := F_Or) (N := 11) hx hb hts i_Or t_Or t_Or_ok n_Or hown hK hP hD hS 0 rfl rfl 5 (by decide) (hts _ iw_9350811e) (fun _ h9 => h9) rfl (by decide +kernel) rfl rfl (Nat.le_of_ble_eq_true rfl) d_Or_clear_2 (fun H locs hP hD hS => ?_)
  have hP : va_P D classes [(qO, .inr (0, [.ref qT, .ref qR, .ref qP, .ref qL, .ref qF, .int 0, .int brd, .int tup, .int tdn, .ref qOa, .int askd])), (qOa, .inl (cT 0, 149, .inl answ)), (qT, .inr (1, [.ref qTs, .int tlen, .int tpl])), (qTs, .inl (cT 2, 300, .inl tsg)), (qR, .inr (2, [.ref qRs, .int rlen, .int rsz])), (qRs, .inl (cT 2, 300, .inl rsg)), (qP, .inr (3, [.ref qPc, .ref qPl, .ref qPv, .int psz])), (qPc, .inl (cT 0, 12, .inl pcd)), (qPl, .inl (cT 0, 12, .inl pld)), (qPv, .inl (cT 1, 12, .inr (.inl pct))), (qL, .inr (4, [.ref qLj, .int lpr, .int (bI lful)])), (qLj, .inl (cT 0, 10, .inl ljn)), (qF, .inr (5, [.ref qFk, .ref qFf, .ref qFl, .int fsz])), (qFk, .inl (cT 0, 20, .inl fkd)), (qFf, .inl (cT 0, 20, .inl ffr)), (qFl, .inl (cT 0, 20, .inl fto))] H := hP
  have hD : va_D A [(qO, .inr (0, [.ref qT, .ref qR, .ref qP, .ref qL, .ref qF, .int 0, .int brd, .int tup, .int tdn, .ref qOa, .int askd])), (qOa, .inl (cT 0, 149, .inl answ)), (qT, .inr (1, [.ref qTs, .int tlen, .int tpl])), (qTs, .inl (cT 2, 300, .inl tsg)), (qR, .inr (2, [.ref qRs, .int rlen, .int rsz])), (qRs, .inl (cT 2, 300, .inl rsg)), (qP, .inr (3, [.ref qPc, .ref qPl, .ref qPv, .int psz])), (qPc, .inl (cT 0, 12, .inl pcd)), (qPl, .inl (cT 0, 12, .inl pld)), (qPv, .inl (cT 1, 12, .inr (.inl pct))), (qL, .inr (4, [.ref qLj, .int lpr, .int (bI lful)])), (qLj, .inl (cT 0, 10, .inl ljn)), (qF, .inr (5, [.ref qFk, .ref qFf, .ref qFl, .int fsz])), (qFk, .inl (cT 0, 20, .inl fkd)), (qFf, .inl (cT 0, 20, .inl ffr)), (qFl, .inl (cT 0, 20, .inl fto))] := hD
  refine lv_aload_n hx hb d_Or_clear_5 rfl (lv_at hl 0 rfl) ?_
  refine va_get (D := D) (ci := 0) (v := .ref qP) (C := R_Or) (T := F_Or) (N := 11) hx hb hts i_Or hown hK hP 0 rfl rfl 2 (by decide) (hts _ iw_4820ce3a) (fun _ h9 => h9) rfl d_Or_clear_6 ?_
  obtain ⟨r_9, psz_9, hc_9, hM⟩ := bd2T hM
  refine ca_V (As := []) (rest := []) (wr := [(qO, .inr (0, [.ref qT, .ref qR, .ref qP, .ref qL, .ref qF, .int 0, .int brd, .int tup, .int tdn, .ref qOa, .int askd])), (qOa, .inl (cT 0, 149, .inl answ)), (qT, .inr (1, [.ref qTs, .int tlen, .int tpl])), (qTs, .inl (cT 2, 300, .inl tsg)), (qR, .inr (2, [.ref qRs, .int rlen, .int rsz])), (qRs, .inl (cT 2, 300, .inl rsg)), (qL, .inr (4, [.ref qLj, .int lpr, .int (bI lful)])), (qLj, .inl (cT 0, 10, .inl ljn)), (qF, .inr (5, [.ref qFk, .ref qFf, .ref qFl, .int fsz])), (qFk, .inl (cT 0, 20, .inl fkd)), (qFf, .inl (cT 0, 20, .inl ffr)), (qFl, .inl (cT 0, 20, .inl fto))]) (w2 := [(qO, .inr (0, [.ref qT, .ref qR, .ref qP, .ref qL, .ref qF, .int 0, .int brd, .int tup, .int tdn, .ref qOa, .int askd])), (qOa, .inl (cT 0, 149, .inl answ)), (qT, .inr (1, [.ref qTs, .int tlen, .int tpl])), (qTs, .inl (cT 2, 300, .inl tsg)), (qR, .inr (2, [.ref qRs, .int rlen, .int rsz])), (qRs, .inl (cT 2, 300, .inl rsg)), (qP, .inr (3, [.ref qPc, .ref qPl, .ref qPv, .int psz_9])), (qPc, .inl (cT 0, 12, .inl pcd)), (qPl, .inl (cT 0, 12, .inl pld)), (qPv, .inl (cT 1, 12, .inr (.inl pct))), (qL, .inr (4, [.ref qLj, .int lpr, .int (bI lful)])), (qLj, .inl (cT 0, 10, .inl ljn)), (qF, .inr (5, [.ref qFk, .ref qFf, .ref qFl, .int fsz])), (qFk, .inl (cT 0, 20, .inl fkd)), (qFf, .inl (cT 0, 20, .inl ffr)), (qFl, .inl (cT 0, 20, .inl fto))]) S hE (c_Parts_forget l D cT qP qPc qPl qPv psz pcd pld pct hc_9) gw_d2bbfa48 rfl rfl ⟨Nat.le_of_ble_eq_true rfl, Nat.le_of_ble_eq_true rfl⟩ (ci := 3) rfl rfl (k0 := 0) rfl rfl hl.1 rfl (Nat.le_of_ble_eq_true rfl) d_Or_clear_9 ⟨Nat.zero_le _, Nat.zero_le _⟩ hP hD hS hA [6, 7, 8, 9] [0, 1, 2, 3, 4, 5, 10, 11, 12, 13, 14, 15] [0, 1, 2, 3, 4, 5, 12, 13, 14, 15, 6, 7, 8, 9, 10, 11] rfl rfl (by decide) (by decide) rfl (by decide) (by decide) (fun H locs hP hD hS => ?_)
  obtain ⟨eo0, eo1, eo2⟩ := so3T hM
  subst eo0
  subst eo1
  subst eo2
  exact rt_i S hr hlocks hP hD hS d_Or_clear_12
def rm_Or_process : Room := { frames := 1, cells := 0, slots := 0, locals := 21 }
set_option maxHeartbeats 4000000 in
set_option maxRecDepth 100000 in
theorem c_Or_process (l : Launch) (D : va_G) (cT : Nat → ClassId) (qO : Nat) (qOa : Nat) (qT : Nat) (qTs : Nat) (qR : Nat) (qRs : Nat) (qP : Nat) (qPc : Nat) (qPl : Nat) (qPv : Nat) (qL : Nat) (qLj : Nat) (qF : Nat) (qFk : Nat) (qFf : Nat) (qFl : Nat) (done : Int32) (brd : Int32) (tup : Int32) (tdn : Int32) (askd : Int32) (answ : Nat → Int32) (tlen : Int32) (tpl : Int32) (tsg : Nat → Int32) (rlen : Int32) (rsz : Int32) (rsg : Nat → Int32) (psz : Int32) (pcd : Nat → Int32) (pld : Nat → Int32) (pct : Nat → Int64) (lpr : Int32) (lful : Bool) (ljn : Nat → Int32) (fsz : Int32) (fkd : Nat → Int32) (ffr : Nat → Int32) (fto : Nat → Int32) (p1 : Int32) {rr : Bool} {o_done : Int32} (hM : m_Or_process p1 done = some (rr, o_done)) : Ct l y_Or_process (WS y_Or_process b_Or_process 2 (some .boolean)) rm_Or_process D cT [.ref qO, .int p1] [(qO, .inr (0, [.ref qT, .ref qR, .ref qP, .ref qL, .ref qF, .int done, .int brd, .int tup, .int tdn, .ref qOa, .int askd])), (qOa, .inl (cT 0, 149, .inl answ)), (qT, .inr (1, [.ref qTs, .int tlen, .int tpl])), (qTs, .inl (cT 2, 300, .inl tsg)), (qR, .inr (2, [.ref qRs, .int rlen, .int rsz])), (qRs, .inl (cT 2, 300, .inl rsg)), (qP, .inr (3, [.ref qPc, .ref qPl, .ref qPv, .int psz])), (qPc, .inl (cT 0, 12, .inl pcd)), (qPl, .inl (cT 0, 12, .inl pld)), (qPv, .inl (cT 1, 12, .inr (.inl pct))), (qL, .inr (4, [.ref qLj, .int lpr, .int (bI lful)])), (qLj, .inl (cT 0, 10, .inl ljn)), (qF, .inr (5, [.ref qFk, .ref qFf, .ref qFl, .int fsz])), (qFk, .inl (cT 0, 20, .inl fkd)), (qFf, .inl (cT 0, 20, .inl ffr)), (qFl, .inl (cT 0, 20, .inl fto))] (some (.int (bI rr))) [(qO, .inr (0, [.ref qT, .ref qR, .ref qP, .ref qL, .ref qF, .int o_done, .int brd, .int tup, .int tdn, .ref qOa, .int askd])), (qOa, .inl (cT 0, 149, .inl answ)), (qT, .inr (1, [.ref qTs, .int tlen, .int tpl])), (qTs, .inl (cT 2, 300, .inl tsg)), (qR, .inr (2, [.ref qRs, .int rlen, .int rsz])), (qRs, .inl (cT 2, 300, .inl rsg)), (qP, .inr (3, [.ref qPc, .ref qPl, .ref qPv, .int psz])), (qPc, .inl (cT 0, 12, .inl pcd)), (qPl, .inl (cT 0, 12, .inl pld)), (qPv, .inl (cT 1, 12, .inr (.inl pct))), (qL, .inr (4, [.ref qLj, .int lpr, .int (bI lful)])), (qLj, .inl (cT 0, 10, .inl ljn)), (qF, .inr (5, [.ref qFk, .ref qFf, .ref qFl, .int fsz])), (qFk, .inl (cT 0, 20, .inl fkd)), (qFf, .inl (cT 0, 20, .inl ffr)), (qFl, .inl (cT 0, 20, .inl fto))] 0 0 := by
  intro sz
  refine Met.ofW (cc := b_Or_process) (maxL := 2) (ret := (some .boolean)) (by decide) rfl ?_
  intro p e s m args below meth c s₁ B hml hv
  obtain ⟨rfl, hsz, hP, hE, hD0⟩ := hv
  have hx := B.exec
  have hb := B.bytes
  have hr := B.returns
  have hts : ∀ w ∈ TB, w.before _ s = true := fun w h => atoms_spec (ws := WS y_Or_process b_Or_process 2 (some .boolean)) B.pre w (List.mem_cons_of_mem _ h)
  have hown : s.vm.findClass R_Or = some m.cls := findClass_of_methodNamed B.named
  have hlocks := B.notSynchronized
  have hK := hE.1
  have hN := hE.2
  subst hsz
  have hD := hD0.self (sz := s.heap.size)
  generalize hAe : va_A [(qO, .inr (0, [.ref qT, .ref qR, .ref qP, .ref qL, .ref qF, .int done, .int brd, .int tup, .int tdn, .ref qOa, .int askd])), (qOa, .inl (cT 0, 149, .inl answ)), (qT, .inr (1, [.ref qTs, .int tlen, .int tpl])), (qTs, .inl (cT 2, 300, .inl tsg)), (qR, .inr (2, [.ref qRs, .int rlen, .int rsz])), (qRs, .inl (cT 2, 300, .inl rsg)), (qP, .inr (3, [.ref qPc, .ref qPl, .ref qPv, .int psz])), (qPc, .inl (cT 0, 12, .inl pcd)), (qPl, .inl (cT 0, 12, .inl pld)), (qPv, .inl (cT 1, 12, .inr (.inl pct))), (qL, .inr (4, [.ref qLj, .int lpr, .int (bI lful)])), (qLj, .inl (cT 0, 10, .inl ljn)), (qF, .inr (5, [.ref qFk, .ref qFf, .ref qFl, .int fsz])), (qFk, .inl (cT 0, 20, .inl fkd)), (qFf, .inl (cT 0, 20, .inl ffr)), (qFl, .inl (cT 0, 20, .inl fto))] s.heap.size = A at hD ⊢
  have hA : ∀ q : Nat, s.heap.size ≤ q → A q := fun q h => by rw [← hAe]; exact Or.inr h
  have hS : va_S A s.heap s.heap [] := va_S.rf
  have hl := lv_entry ([.ref qO, .int p1]) (n := 2) (Nat.le_of_ble_eq_true rfl)
  rw [lg_entry_eq]
  generalize (lg_sl ([.ref qO, .int p1]) ++ List.replicate (2 - (lg_sl ([.ref qO, .int p1])).length) Slot.unset).toArray = ls at hl ⊢
  have hl : lv_has ls 2 [(0, .ref qO), (1, .int p1)] := hl
  have S : CallFix p m c b_Or_process 2 s _ TB R_Or := ⟨hx, hb, hml, hown, hts⟩
  unfold m_Or_process at hM
  refine lv_iload_n hx hb d_Or_process_0 rfl (lv_at hl 1 rfl) ?_
  obtain ⟨r_1, hc_1, hM⟩ := bd1T hM
  refine ca_S (As := [.int p1]) (rest := []) (wr := [(qO, .inr (0, [.ref qT, .ref qR, .ref qP, .ref qL, .ref qF, .int done, .int brd, .int tup, .int tdn, .ref qOa, .int askd])), (qOa, .inl (cT 0, 149, .inl answ)), (qT, .inr (1, [.ref qTs, .int tlen, .int tpl])), (qTs, .inl (cT 2, 300, .inl tsg)), (qR, .inr (2, [.ref qRs, .int rlen, .int rsz])), (qRs, .inl (cT 2, 300, .inl rsg)), (qP, .inr (3, [.ref qPc, .ref qPl, .ref qPv, .int psz])), (qPc, .inl (cT 0, 12, .inl pcd)), (qPl, .inl (cT 0, 12, .inl pld)), (qPv, .inl (cT 1, 12, .inr (.inl pct))), (qL, .inr (4, [.ref qLj, .int lpr, .int (bI lful)])), (qLj, .inl (cT 0, 10, .inl ljn)), (qF, .inr (5, [.ref qFk, .ref qFf, .ref qFl, .int fsz])), (qFk, .inl (cT 0, 20, .inl fkd)), (qFf, .inl (cT 0, 20, .inl ffr)), (qFl, .inl (cT 0, 20, .inl fto))]) (w2 := [(qO, .inr (0, [.ref qT, .ref qR, .ref qP, .ref qL, .ref qF, .int done, .int brd, .int tup, .int tdn, .ref qOa, .int askd])), (qOa, .inl (cT 0, 149, .inl answ)), (qT, .inr (1, [.ref qTs, .int tlen, .int tpl])), (qTs, .inl (cT 2, 300, .inl tsg)), (qR, .inr (2, [.ref qRs, .int rlen, .int rsz])), (qRs, .inl (cT 2, 300, .inl rsg)), (qP, .inr (3, [.ref qPc, .ref qPl, .ref qPv, .int psz])), (qPc, .inl (cT 0, 12, .inl pcd)), (qPl, .inl (cT 0, 12, .inl pld)), (qPv, .inl (cT 1, 12, .inr (.inl pct))), (qL, .inr (4, [.ref qLj, .int lpr, .int (bI lful)])), (qLj, .inl (cT 0, 10, .inl ljn)), (qF, .inr (5, [.ref qFk, .ref qFf, .ref qFl, .int fsz])), (qFk, .inl (cT 0, 20, .inl fkd)), (qFf, .inl (cT 0, 20, .inl ffr)), (qFl, .inl (cT 0, 20, .inl fto))]) S hE (c_Or_isProcess l D cT p1 hc_1) gw_5add798e rfl rfl ⟨Nat.le_of_ble_eq_true rfl, Nat.le_of_ble_eq_true rfl⟩ rfl hl.1 rfl (Nat.le_of_ble_eq_true rfl) d_Or_process_1 ⟨Nat.zero_le _, Nat.zero_le _⟩ hP hD hS hA [] [0, 1, 2, 3, 4, 5, 6, 7, 8, 9, 10, 11, 12, 13, 14, 15] [0, 1, 2, 3, 4, 5, 6, 7, 8, 9, 10, 11, 12, 13, 14, 15] rfl rfl (by decide) (by decide) rfl (by decide) (by decide) (fun H locs hP hD hS => ?_)
  refine lv_if_eq (tgt := 18) hx hb d_Or_process_4 (by decide) (fun c_4 => ?_) (fun c_4 => ?_)
  · have hM := itT hM c_4
    refine lv_iconst (v := 0) hx hb d_Or_process_18 (by decide) ?_
    obtain ⟨eo0, eo1⟩ := so2T hM
    subst eo0
    subst eo1
    exact rt_z S hr hlocks hP hD hS d_Or_process_19
  · have hM := itF hM c_4
    refine lv_aload_n hx hb d_Or_process_7 rfl (lv_at hl 0 rfl) ?_
    refine va_get (D := D) (ci := 0) (v := .int done) (C := R_Or) (T := F_Or) (N := 11) hx hb hts i_Or hown hK hP 0 rfl rfl 5 (by decide) (hts _ iw_9350811e) (fun _ h9 => h9) rfl d_Or_process_8 ?_
    refine lv_iload_n hx hb d_Or_process_11 rfl (lv_at hl 1 rfl) ?_
    obtain ⟨r_12, hc_12, hM⟩ := bd1T hM
    refine ca_S (As := [.int done, .int p1]) (rest := []) (wr := [(qO, .inr (0, [.ref qT, .ref qR, .ref qP, .ref qL, .ref qF, .int done, .int brd, .int tup, .int tdn, .ref qOa, .int askd])), (qOa, .inl (cT 0, 149, .inl answ)), (qT, .inr (1, [.ref qTs, .int tlen, .int tpl])), (qTs, .inl (cT 2, 300, .inl tsg)), (qR, .inr (2, [.ref qRs, .int rlen, .int rsz])), (qRs, .inl (cT 2, 300, .inl rsg)), (qP, .inr (3, [.ref qPc, .ref qPl, .ref qPv, .int psz])), (qPc, .inl (cT 0, 12, .inl pcd)), (qPl, .inl (cT 0, 12, .inl pld)), (qPv, .inl (cT 1, 12, .inr (.inl pct))), (qL, .inr (4, [.ref qLj, .int lpr, .int (bI lful)])), (qLj, .inl (cT 0, 10, .inl ljn)), (qF, .inr (5, [.ref qFk, .ref qFf, .ref qFl, .int fsz])), (qFk, .inl (cT 0, 20, .inl fkd)), (qFf, .inl (cT 0, 20, .inl ffr)), (qFl, .inl (cT 0, 20, .inl fto))]) (w2 := [(qO, .inr (0, [.ref qT, .ref qR, .ref qP, .ref qL, .ref qF, .int done, .int brd, .int tup, .int tdn, .ref qOa, .int askd])), (qOa, .inl (cT 0, 149, .inl answ)), (qT, .inr (1, [.ref qTs, .int tlen, .int tpl])), (qTs, .inl (cT 2, 300, .inl tsg)), (qR, .inr (2, [.ref qRs, .int rlen, .int rsz])), (qRs, .inl (cT 2, 300, .inl rsg)), (qP, .inr (3, [.ref qPc, .ref qPl, .ref qPv, .int psz])), (qPc, .inl (cT 0, 12, .inl pcd)), (qPl, .inl (cT 0, 12, .inl pld)), (qPv, .inl (cT 1, 12, .inr (.inl pct))), (qL, .inr (4, [.ref qLj, .int lpr, .int (bI lful)])), (qLj, .inl (cT 0, 10, .inl ljn)), (qF, .inr (5, [.ref qFk, .ref qFf, .ref qFl, .int fsz])), (qFk, .inl (cT 0, 20, .inl fkd)), (qFf, .inl (cT 0, 20, .inl ffr)), (qFl, .inl (cT 0, 20, .inl fto))]) S hE (c_Or_hasBit l D cT done p1 hc_12) gw_b05a7136 rfl rfl ⟨Nat.le_of_ble_eq_true rfl, Nat.le_of_ble_eq_true rfl⟩ rfl hl.1 rfl (Nat.le_of_ble_eq_true rfl) d_Or_process_12 ⟨Nat.zero_le _, Nat.zero_le _⟩ hP hD hS hA [] [0, 1, 2, 3, 4, 5, 6, 7, 8, 9, 10, 11, 12, 13, 14, 15] [0, 1, 2, 3, 4, 5, 6, 7, 8, 9, 10, 11, 12, 13, 14, 15] rfl rfl (by decide) (by decide) rfl (by decide) (by decide) (fun H locs hP hD hS => ?_)
    refine lv_if_eq (tgt := 20) hx hb d_Or_process_15 (by decide) (fun c_15 => ?_) (fun c_15 => ?_)
    · have hM := itT hM c_15
      refine lv_aload_n hx hb d_Or_process_20 rfl (lv_at hl 0 rfl) ?_
      refine lv_dup hx hb d_Or_process_21 rfl ?_
      refine va_get (D := D) (ci := 0) (v := .int done) (C := R_Or) (T := F_Or) (N := 11) hx hb hts i_Or hown hK hP 0 rfl rfl 5 (by decide) (hts _ iw_9350811e) (fun _ h9 => h9) rfl d_Or_process_22 ?_
      refine lv_iconst (v := 1) hx hb d_Or_process_25 (by decide) ?_
      refine lv_iload_n hx hb d_Or_process_26 rfl (lv_at hl 1 rfl) ?_
      refine lv_ishl hx hb d_Or_process_27 ?_
      refine lv_ior hx hb d_Or_process_28 ?_
      refine va_put (D := D) (ci := 0) (v := .int (done ||| (1 <<< (p1 &&& 31)))) (ty := .int) (C := R_Or) (T := F_Or) (N := 11) hx hb hts i_Or t_Or t_Or_ok n_Or hown hK hP hD hS 0 rfl rfl 5 (by decide) (hts _ iw_9350811e) (fun _ h9 => h9) rfl (by decide +kernel) rfl rfl (Nat.le_of_ble_eq_true rfl) d_Or_process_29 (fun H locs hP hD hS => ?_)
      have hP : va_P D classes [(qO, .inr (0, [.ref qT, .ref qR, .ref qP, .ref qL, .ref qF, .int (done ||| (1 <<< (p1 &&& 31))), .int brd, .int tup, .int tdn, .ref qOa, .int askd])), (qOa, .inl (cT 0, 149, .inl answ)), (qT, .inr (1, [.ref qTs, .int tlen, .int tpl])), (qTs, .inl (cT 2, 300, .inl tsg)), (qR, .inr (2, [.ref qRs, .int rlen, .int rsz])), (qRs, .inl (cT 2, 300, .inl rsg)), (qP, .inr (3, [.ref qPc, .ref qPl, .ref qPv, .int psz])), (qPc, .inl (cT 0, 12, .inl pcd)), (qPl, .inl (cT 0, 12, .inl pld)), (qPv, .inl (cT 1, 12, .inr (.inl pct))), (qL, .inr (4, [.ref qLj, .int lpr, .int (bI lful)])), (qLj, .inl (cT 0, 10, .inl ljn)), (qF, .inr (5, [.ref qFk, .ref qFf, .ref qFl, .int fsz])), (qFk, .inl (cT 0, 20, .inl fkd)), (qFf, .inl (cT 0, 20, .inl ffr)), (qFl, .inl (cT 0, 20, .inl fto))] H := hP
      have hD : va_D A [(qO, .inr (0, [.ref qT, .ref qR, .ref qP, .ref qL, .ref qF, .int (done ||| (1 <<< (p1 &&& 31))), .int brd, .int tup, .int tdn, .ref qOa, .int askd])), (qOa, .inl (cT 0, 149, .inl answ)), (qT, .inr (1, [.ref qTs, .int tlen, .int tpl])), (qTs, .inl (cT 2, 300, .inl tsg)), (qR, .inr (2, [.ref qRs, .int rlen, .int rsz])), (qRs, .inl (cT 2, 300, .inl rsg)), (qP, .inr (3, [.ref qPc, .ref qPl, .ref qPv, .int psz])), (qPc, .inl (cT 0, 12, .inl pcd)), (qPl, .inl (cT 0, 12, .inl pld)), (qPv, .inl (cT 1, 12, .inr (.inl pct))), (qL, .inr (4, [.ref qLj, .int lpr, .int (bI lful)])), (qLj, .inl (cT 0, 10, .inl ljn)), (qF, .inr (5, [.ref qFk, .ref qFf, .ref qFl, .int fsz])), (qFk, .inl (cT 0, 20, .inl fkd)), (qFf, .inl (cT 0, 20, .inl ffr)), (qFl, .inl (cT 0, 20, .inl fto))] := hD
      refine lv_iconst (v := 1) hx hb d_Or_process_32 (by decide) ?_
      obtain ⟨eo0, eo1⟩ := so2T hM
      subst eo0
      subst eo1
      exact rt_z S hr hlocks hP hD hS d_Or_process_33
    · have hM := itF hM c_15
      refine lv_iconst (v := 0) hx hb d_Or_process_18 (by decide) ?_
      obtain ⟨eo0, eo1⟩ := so2T hM
      subst eo0
      subst eo1
      exact rt_z S hr hlocks hP hD hS d_Or_process_19
def rm_Or_bar : Room := { frames := 1, cells := 0, slots := 0, locals := 21 }
set_option maxHeartbeats 4000000 in
set_option maxRecDepth 100000 in
theorem c_Or_bar (l : Launch) (D : va_G) (cT : Nat → ClassId) (qO : Nat) (qOa : Nat) (qT : Nat) (qTs : Nat) (qR : Nat) (qRs : Nat) (qP : Nat) (qPc : Nat) (qPl : Nat) (qPv : Nat) (qL : Nat) (qLj : Nat) (qF : Nat) (qFk : Nat) (qFf : Nat) (qFl : Nat) (done : Int32) (brd : Int32) (tup : Int32) (tdn : Int32) (askd : Int32) (answ : Nat → Int32) (tlen : Int32) (tpl : Int32) (tsg : Nat → Int32) (rlen : Int32) (rsz : Int32) (rsg : Nat → Int32) (psz : Int32) (pcd : Nat → Int32) (pld : Nat → Int32) (pct : Nat → Int64) (lpr : Int32) (lful : Bool) (ljn : Nat → Int32) (fsz : Int32) (fkd : Nat → Int32) (ffr : Nat → Int32) (fto : Nat → Int32) (p1 : Int32) (p2 : Bool) {rr : Bool} {o_brd : Int32} (hM : m_Or_bar p1 p2 brd = some (rr, o_brd)) : Ct l y_Or_bar (WS y_Or_bar b_Or_bar 3 (some .boolean)) rm_Or_bar D cT [.ref qO, .int p1, .int (bI p2)] [(qO, .inr (0, [.ref qT, .ref qR, .ref qP, .ref qL, .ref qF, .int done, .int brd, .int tup, .int tdn, .ref qOa, .int askd])), (qOa, .inl (cT 0, 149, .inl answ)), (qT, .inr (1, [.ref qTs, .int tlen, .int tpl])), (qTs, .inl (cT 2, 300, .inl tsg)), (qR, .inr (2, [.ref qRs, .int rlen, .int rsz])), (qRs, .inl (cT 2, 300, .inl rsg)), (qP, .inr (3, [.ref qPc, .ref qPl, .ref qPv, .int psz])), (qPc, .inl (cT 0, 12, .inl pcd)), (qPl, .inl (cT 0, 12, .inl pld)), (qPv, .inl (cT 1, 12, .inr (.inl pct))), (qL, .inr (4, [.ref qLj, .int lpr, .int (bI lful)])), (qLj, .inl (cT 0, 10, .inl ljn)), (qF, .inr (5, [.ref qFk, .ref qFf, .ref qFl, .int fsz])), (qFk, .inl (cT 0, 20, .inl fkd)), (qFf, .inl (cT 0, 20, .inl ffr)), (qFl, .inl (cT 0, 20, .inl fto))] (some (.int (bI rr))) [(qO, .inr (0, [.ref qT, .ref qR, .ref qP, .ref qL, .ref qF, .int done, .int o_brd, .int tup, .int tdn, .ref qOa, .int askd])), (qOa, .inl (cT 0, 149, .inl answ)), (qT, .inr (1, [.ref qTs, .int tlen, .int tpl])), (qTs, .inl (cT 2, 300, .inl tsg)), (qR, .inr (2, [.ref qRs, .int rlen, .int rsz])), (qRs, .inl (cT 2, 300, .inl rsg)), (qP, .inr (3, [.ref qPc, .ref qPl, .ref qPv, .int psz])), (qPc, .inl (cT 0, 12, .inl pcd)), (qPl, .inl (cT 0, 12, .inl pld)), (qPv, .inl (cT 1, 12, .inr (.inl pct))), (qL, .inr (4, [.ref qLj, .int lpr, .int (bI lful)])), (qLj, .inl (cT 0, 10, .inl ljn)), (qF, .inr (5, [.ref qFk, .ref qFf, .ref qFl, .int fsz])), (qFk, .inl (cT 0, 20, .inl fkd)), (qFf, .inl (cT 0, 20, .inl ffr)), (qFl, .inl (cT 0, 20, .inl fto))] 0 0 := by
  intro sz
  refine Met.ofW (cc := b_Or_bar) (maxL := 3) (ret := (some .boolean)) (by decide) rfl ?_
  intro p e s m args below meth c s₁ B hml hv
  obtain ⟨rfl, hsz, hP, hE, hD0⟩ := hv
  have hx := B.exec
  have hb := B.bytes
  have hr := B.returns
  have hts : ∀ w ∈ TB, w.before _ s = true := fun w h => atoms_spec (ws := WS y_Or_bar b_Or_bar 3 (some .boolean)) B.pre w (List.mem_cons_of_mem _ h)
  have hown : s.vm.findClass R_Or = some m.cls := findClass_of_methodNamed B.named
  have hlocks := B.notSynchronized
  have hK := hE.1
  have hN := hE.2
  subst hsz
  have hD := hD0.self (sz := s.heap.size)
  generalize hAe : va_A [(qO, .inr (0, [.ref qT, .ref qR, .ref qP, .ref qL, .ref qF, .int done, .int brd, .int tup, .int tdn, .ref qOa, .int askd])), (qOa, .inl (cT 0, 149, .inl answ)), (qT, .inr (1, [.ref qTs, .int tlen, .int tpl])), (qTs, .inl (cT 2, 300, .inl tsg)), (qR, .inr (2, [.ref qRs, .int rlen, .int rsz])), (qRs, .inl (cT 2, 300, .inl rsg)), (qP, .inr (3, [.ref qPc, .ref qPl, .ref qPv, .int psz])), (qPc, .inl (cT 0, 12, .inl pcd)), (qPl, .inl (cT 0, 12, .inl pld)), (qPv, .inl (cT 1, 12, .inr (.inl pct))), (qL, .inr (4, [.ref qLj, .int lpr, .int (bI lful)])), (qLj, .inl (cT 0, 10, .inl ljn)), (qF, .inr (5, [.ref qFk, .ref qFf, .ref qFl, .int fsz])), (qFk, .inl (cT 0, 20, .inl fkd)), (qFf, .inl (cT 0, 20, .inl ffr)), (qFl, .inl (cT 0, 20, .inl fto))] s.heap.size = A at hD ⊢
  have hA : ∀ q : Nat, s.heap.size ≤ q → A q := fun q h => by rw [← hAe]; exact Or.inr h
  have hS : va_S A s.heap s.heap [] := va_S.rf
  have hl := lv_entry ([.ref qO, .int p1, .int (bI p2)]) (n := 3) (Nat.le_of_ble_eq_true rfl)
  rw [lg_entry_eq]
  generalize (lg_sl ([.ref qO, .int p1, .int (bI p2)]) ++ List.replicate (3 - (lg_sl ([.ref qO, .int p1, .int (bI p2)])).length) Slot.unset).toArray = ls at hl ⊢
  have hl : lv_has ls 3 [(0, .ref qO), (1, .int p1), (2, .int (bI p2))] := hl
  have S : CallFix p m c b_Or_bar 3 s _ TB R_Or := ⟨hx, hb, hml, hown, hts⟩
  unfold m_Or_bar at hM
  refine lv_iload_n hx hb d_Or_bar_0 rfl (lv_at hl 1 rfl) ?_
  obtain ⟨r_1, hc_1, hM⟩ := bd1T hM
  refine ca_S (As := [.int p1]) (rest := []) (wr := [(qO, .inr (0, [.ref qT, .ref qR, .ref qP, .ref qL, .ref qF, .int done, .int brd, .int tup, .int tdn, .ref qOa, .int askd])), (qOa, .inl (cT 0, 149, .inl answ)), (qT, .inr (1, [.ref qTs, .int tlen, .int tpl])), (qTs, .inl (cT 2, 300, .inl tsg)), (qR, .inr (2, [.ref qRs, .int rlen, .int rsz])), (qRs, .inl (cT 2, 300, .inl rsg)), (qP, .inr (3, [.ref qPc, .ref qPl, .ref qPv, .int psz])), (qPc, .inl (cT 0, 12, .inl pcd)), (qPl, .inl (cT 0, 12, .inl pld)), (qPv, .inl (cT 1, 12, .inr (.inl pct))), (qL, .inr (4, [.ref qLj, .int lpr, .int (bI lful)])), (qLj, .inl (cT 0, 10, .inl ljn)), (qF, .inr (5, [.ref qFk, .ref qFf, .ref qFl, .int fsz])), (qFk, .inl (cT 0, 20, .inl fkd)), (qFf, .inl (cT 0, 20, .inl ffr)), (qFl, .inl (cT 0, 20, .inl fto))]) (w2 := [(qO, .inr (0, [.ref qT, .ref qR, .ref qP, .ref qL, .ref qF, .int done, .int brd, .int tup, .int tdn, .ref qOa, .int askd])), (qOa, .inl (cT 0, 149, .inl answ)), (qT, .inr (1, [.ref qTs, .int tlen, .int tpl])), (qTs, .inl (cT 2, 300, .inl tsg)), (qR, .inr (2, [.ref qRs, .int rlen, .int rsz])), (qRs, .inl (cT 2, 300, .inl rsg)), (qP, .inr (3, [.ref qPc, .ref qPl, .ref qPv, .int psz])), (qPc, .inl (cT 0, 12, .inl pcd)), (qPl, .inl (cT 0, 12, .inl pld)), (qPv, .inl (cT 1, 12, .inr (.inl pct))), (qL, .inr (4, [.ref qLj, .int lpr, .int (bI lful)])), (qLj, .inl (cT 0, 10, .inl ljn)), (qF, .inr (5, [.ref qFk, .ref qFf, .ref qFl, .int fsz])), (qFk, .inl (cT 0, 20, .inl fkd)), (qFf, .inl (cT 0, 20, .inl ffr)), (qFl, .inl (cT 0, 20, .inl fto))]) S hE (c_Or_isProcess l D cT p1 hc_1) gw_5add798e rfl rfl ⟨Nat.le_of_ble_eq_true rfl, Nat.le_of_ble_eq_true rfl⟩ rfl hl.1 rfl (Nat.le_of_ble_eq_true rfl) d_Or_bar_1 ⟨Nat.zero_le _, Nat.zero_le _⟩ hP hD hS hA [] [0, 1, 2, 3, 4, 5, 6, 7, 8, 9, 10, 11, 12, 13, 14, 15] [0, 1, 2, 3, 4, 5, 6, 7, 8, 9, 10, 11, 12, 13, 14, 15] rfl rfl (by decide) (by decide) rfl (by decide) (by decide) (fun H locs hP hD hS => ?_)
  refine lv_if_eq (tgt := 19) hx hb d_Or_bar_4 (by decide) (fun c_4 => ?_) (fun c_4 => ?_)
  · have hM := itT hM c_4
    refine lv_iconst (v := 0) hx hb d_Or_bar_19 (by decide) ?_
    obtain ⟨eo0, eo1⟩ := so2T hM
    subst eo0
    subst eo1
    exact rt_z S hr hlocks hP hD hS d_Or_bar_20
  · have hM := itF hM c_4
    refine lv_aload_n hx hb d_Or_bar_7 rfl (lv_at hl 0 rfl) ?_
    refine va_get (D := D) (ci := 0) (v := .int brd) (C := R_Or) (T := F_Or) (N := 11) hx hb hts i_Or hown hK hP 0 rfl rfl 6 (by decide) (hts _ iw_e07d8303) (fun _ h9 => h9) rfl d_Or_bar_8 ?_
    refine lv_iload_n hx hb d_Or_bar_11 rfl (lv_at hl 1 rfl) ?_
    obtain ⟨r_12, hc_12, hM⟩ := bd1T hM
    refine ca_S (As := [.int brd, .int p1]) (rest := []) (wr := [(qO, .inr (0, [.ref qT, .ref qR, .ref qP, .ref qL, .ref qF, .int done, .int brd, .int tup, .int tdn, .ref qOa, .int askd])), (qOa, .inl (cT 0, 149, .inl answ)), (qT, .inr (1, [.ref qTs, .int tlen, .int tpl])), (qTs, .inl (cT 2, 300, .inl tsg)), (qR, .inr (2, [.ref qRs, .int rlen, .int rsz])), (qRs, .inl (cT 2, 300, .inl rsg)), (qP, .inr (3, [.ref qPc, .ref qPl, .ref qPv, .int psz])), (qPc, .inl (cT 0, 12, .inl pcd)), (qPl, .inl (cT 0, 12, .inl pld)), (qPv, .inl (cT 1, 12, .inr (.inl pct))), (qL, .inr (4, [.ref qLj, .int lpr, .int (bI lful)])), (qLj, .inl (cT 0, 10, .inl ljn)), (qF, .inr (5, [.ref qFk, .ref qFf, .ref qFl, .int fsz])), (qFk, .inl (cT 0, 20, .inl fkd)), (qFf, .inl (cT 0, 20, .inl ffr)), (qFl, .inl (cT 0, 20, .inl fto))]) (w2 := [(qO, .inr (0, [.ref qT, .ref qR, .ref qP, .ref qL, .ref qF, .int done, .int brd, .int tup, .int tdn, .ref qOa, .int askd])), (qOa, .inl (cT 0, 149, .inl answ)), (qT, .inr (1, [.ref qTs, .int tlen, .int tpl])), (qTs, .inl (cT 2, 300, .inl tsg)), (qR, .inr (2, [.ref qRs, .int rlen, .int rsz])), (qRs, .inl (cT 2, 300, .inl rsg)), (qP, .inr (3, [.ref qPc, .ref qPl, .ref qPv, .int psz])), (qPc, .inl (cT 0, 12, .inl pcd)), (qPl, .inl (cT 0, 12, .inl pld)), (qPv, .inl (cT 1, 12, .inr (.inl pct))), (qL, .inr (4, [.ref qLj, .int lpr, .int (bI lful)])), (qLj, .inl (cT 0, 10, .inl ljn)), (qF, .inr (5, [.ref qFk, .ref qFf, .ref qFl, .int fsz])), (qFk, .inl (cT 0, 20, .inl fkd)), (qFf, .inl (cT 0, 20, .inl ffr)), (qFl, .inl (cT 0, 20, .inl fto))]) S hE (c_Or_hasBit l D cT brd p1 hc_12) gw_b05a7136 rfl rfl ⟨Nat.le_of_ble_eq_true rfl, Nat.le_of_ble_eq_true rfl⟩ rfl hl.1 rfl (Nat.le_of_ble_eq_true rfl) d_Or_bar_12 ⟨Nat.zero_le _, Nat.zero_le _⟩ hP hD hS hA [] [0, 1, 2, 3, 4, 5, 6, 7, 8, 9, 10, 11, 12, 13, 14, 15] [0, 1, 2, 3, 4, 5, 6, 7, 8, 9, 10, 11, 12, 13, 14, 15] rfl rfl (by decide) (by decide) rfl (by decide) (by decide) (fun H locs hP hD hS => ?_)
    refine lv_iload_n hx hb d_Or_bar_15 rfl (lv_at hl 2 rfl) ?_
    refine lv_icmp_ne (tgt := 21) hx hb d_Or_bar_16 (by decide) (fun c_16 => ?_) (fun c_16 => ?_)
    · have hM := itF hM c_16
      refine lv_aload_n hx hb d_Or_bar_21 rfl (lv_at hl 0 rfl) ?_
      refine lv_dup hx hb d_Or_bar_22 rfl ?_
      refine va_get (D := D) (ci := 0) (v := .int brd) (C := R_Or) (T := F_Or) (N := 11) hx hb hts i_Or hown hK hP 0 rfl rfl 6 (by decide) (hts _ iw_e07d8303) (fun _ h9 => h9) rfl d_Or_bar_23 ?_
      refine lv_iconst (v := 1) hx hb d_Or_bar_26 (by decide) ?_
      refine lv_iload_n hx hb d_Or_bar_27 rfl (lv_at hl 1 rfl) ?_
      refine lv_ishl hx hb d_Or_bar_28 ?_
      refine lv_ixor hx hb d_Or_bar_29 ?_
      refine va_put (D := D) (ci := 0) (v := .int (brd ^^^ (1 <<< (p1 &&& 31)))) (ty := .int) (C := R_Or) (T := F_Or) (N := 11) hx hb hts i_Or t_Or t_Or_ok n_Or hown hK hP hD hS 0 rfl rfl 6 (by decide) (hts _ iw_e07d8303) (fun _ h9 => h9) rfl (by decide +kernel) rfl rfl (Nat.le_of_ble_eq_true rfl) d_Or_bar_30 (fun H locs hP hD hS => ?_)
      have hP : va_P D classes [(qO, .inr (0, [.ref qT, .ref qR, .ref qP, .ref qL, .ref qF, .int done, .int (brd ^^^ (1 <<< (p1 &&& 31))), .int tup, .int tdn, .ref qOa, .int askd])), (qOa, .inl (cT 0, 149, .inl answ)), (qT, .inr (1, [.ref qTs, .int tlen, .int tpl])), (qTs, .inl (cT 2, 300, .inl tsg)), (qR, .inr (2, [.ref qRs, .int rlen, .int rsz])), (qRs, .inl (cT 2, 300, .inl rsg)), (qP, .inr (3, [.ref qPc, .ref qPl, .ref qPv, .int psz])), (qPc, .inl (cT 0, 12, .inl pcd)), (qPl, .inl (cT 0, 12, .inl pld)), (qPv, .inl (cT 1, 12, .inr (.inl pct))), (qL, .inr (4, [.ref qLj, .int lpr, .int (bI lful)])), (qLj, .inl (cT 0, 10, .inl ljn)), (qF, .inr (5, [.ref qFk, .ref qFf, .ref qFl, .int fsz])), (qFk, .inl (cT 0, 20, .inl fkd)), (qFf, .inl (cT 0, 20, .inl ffr)), (qFl, .inl (cT 0, 20, .inl fto))] H := hP
      have hD : va_D A [(qO, .inr (0, [.ref qT, .ref qR, .ref qP, .ref qL, .ref qF, .int done, .int (brd ^^^ (1 <<< (p1 &&& 31))), .int tup, .int tdn, .ref qOa, .int askd])), (qOa, .inl (cT 0, 149, .inl answ)), (qT, .inr (1, [.ref qTs, .int tlen, .int tpl])), (qTs, .inl (cT 2, 300, .inl tsg)), (qR, .inr (2, [.ref qRs, .int rlen, .int rsz])), (qRs, .inl (cT 2, 300, .inl rsg)), (qP, .inr (3, [.ref qPc, .ref qPl, .ref qPv, .int psz])), (qPc, .inl (cT 0, 12, .inl pcd)), (qPl, .inl (cT 0, 12, .inl pld)), (qPv, .inl (cT 1, 12, .inr (.inl pct))), (qL, .inr (4, [.ref qLj, .int lpr, .int (bI lful)])), (qLj, .inl (cT 0, 10, .inl ljn)), (qF, .inr (5, [.ref qFk, .ref qFf, .ref qFl, .int fsz])), (qFk, .inl (cT 0, 20, .inl fkd)), (qFf, .inl (cT 0, 20, .inl ffr)), (qFl, .inl (cT 0, 20, .inl fto))] := hD
      refine lv_iconst (v := 1) hx hb d_Or_bar_33 (by decide) ?_
      obtain ⟨eo0, eo1⟩ := so2T hM
      subst eo0
      subst eo1
      exact rt_z S hr hlocks hP hD hS d_Or_bar_34
    · have hM := itT hM c_16
      refine lv_iconst (v := 0) hx hb d_Or_bar_19 (by decide) ?_
      obtain ⟨eo0, eo1⟩ := so2T hM
      subst eo0
      subst eo1
      exact rt_z S hr hlocks hP hD hS d_Or_bar_20
def rm_Or_full : Room := { frames := 0, cells := 0, slots := 0, locals := 0 }
set_option maxHeartbeats 4000000 in
set_option maxRecDepth 100000 in
theorem c_Or_full (l : Launch) (D : va_G) (cT : Nat → ClassId) (qO : Nat) (qOa : Nat) (qT : Nat) (qTs : Nat) (qR : Nat) (qRs : Nat) (qP : Nat) (qPc : Nat) (qPl : Nat) (qPv : Nat) (qL : Nat) (qLj : Nat) (qF : Nat) (qFk : Nat) (qFf : Nat) (qFl : Nat) (done : Int32) (brd : Int32) (tup : Int32) (tdn : Int32) (askd : Int32) (answ : Nat → Int32) (tlen : Int32) (tpl : Int32) (tsg : Nat → Int32) (rlen : Int32) (rsz : Int32) (rsg : Nat → Int32) (psz : Int32) (pcd : Nat → Int32) (pld : Nat → Int32) (pct : Nat → Int64) (lpr : Int32) (lful : Bool) (ljn : Nat → Int32) (fsz : Int32) (fkd : Nat → Int32) (ffr : Nat → Int32) (fto : Nat → Int32) (p1 : Bool) {rr : Bool} {o_lful : Bool} (hM : m_Or_full p1 lful = some (rr, o_lful)) : Ct l y_Or_full (WS y_Or_full b_Or_full 2 (some .boolean)) rm_Or_full D cT [.ref qO, .int (bI p1)] [(qO, .inr (0, [.ref qT, .ref qR, .ref qP, .ref qL, .ref qF, .int done, .int brd, .int tup, .int tdn, .ref qOa, .int askd])), (qOa, .inl (cT 0, 149, .inl answ)), (qT, .inr (1, [.ref qTs, .int tlen, .int tpl])), (qTs, .inl (cT 2, 300, .inl tsg)), (qR, .inr (2, [.ref qRs, .int rlen, .int rsz])), (qRs, .inl (cT 2, 300, .inl rsg)), (qP, .inr (3, [.ref qPc, .ref qPl, .ref qPv, .int psz])), (qPc, .inl (cT 0, 12, .inl pcd)), (qPl, .inl (cT 0, 12, .inl pld)), (qPv, .inl (cT 1, 12, .inr (.inl pct))), (qL, .inr (4, [.ref qLj, .int lpr, .int (bI lful)])), (qLj, .inl (cT 0, 10, .inl ljn)), (qF, .inr (5, [.ref qFk, .ref qFf, .ref qFl, .int fsz])), (qFk, .inl (cT 0, 20, .inl fkd)), (qFf, .inl (cT 0, 20, .inl ffr)), (qFl, .inl (cT 0, 20, .inl fto))] (some (.int (bI rr))) [(qO, .inr (0, [.ref qT, .ref qR, .ref qP, .ref qL, .ref qF, .int done, .int brd, .int tup, .int tdn, .ref qOa, .int askd])), (qOa, .inl (cT 0, 149, .inl answ)), (qT, .inr (1, [.ref qTs, .int tlen, .int tpl])), (qTs, .inl (cT 2, 300, .inl tsg)), (qR, .inr (2, [.ref qRs, .int rlen, .int rsz])), (qRs, .inl (cT 2, 300, .inl rsg)), (qP, .inr (3, [.ref qPc, .ref qPl, .ref qPv, .int psz])), (qPc, .inl (cT 0, 12, .inl pcd)), (qPl, .inl (cT 0, 12, .inl pld)), (qPv, .inl (cT 1, 12, .inr (.inl pct))), (qL, .inr (4, [.ref qLj, .int lpr, .int (bI o_lful)])), (qLj, .inl (cT 0, 10, .inl ljn)), (qF, .inr (5, [.ref qFk, .ref qFf, .ref qFl, .int fsz])), (qFk, .inl (cT 0, 20, .inl fkd)), (qFf, .inl (cT 0, 20, .inl ffr)), (qFl, .inl (cT 0, 20, .inl fto))] 0 0 := by
  intro sz
  refine Met.ofW (cc := b_Or_full) (maxL := 2) (ret := (some .boolean)) (by decide) rfl ?_
  intro p e s m args below meth c s₁ B hml hv
  obtain ⟨rfl, hsz, hP, hE, hD0⟩ := hv
  have hx := B.exec
  have hb := B.bytes
  have hr := B.returns
  have hts : ∀ w ∈ TB, w.before _ s = true := fun w h => atoms_spec (ws := WS y_Or_full b_Or_full 2 (some .boolean)) B.pre w (List.mem_cons_of_mem _ h)
  have hown : s.vm.findClass R_Or = some m.cls := findClass_of_methodNamed B.named
  have hlocks := B.notSynchronized
  have hK := hE.1
  have hN := hE.2
  subst hsz
  have hD := hD0.self (sz := s.heap.size)
  generalize hAe : va_A [(qO, .inr (0, [.ref qT, .ref qR, .ref qP, .ref qL, .ref qF, .int done, .int brd, .int tup, .int tdn, .ref qOa, .int askd])), (qOa, .inl (cT 0, 149, .inl answ)), (qT, .inr (1, [.ref qTs, .int tlen, .int tpl])), (qTs, .inl (cT 2, 300, .inl tsg)), (qR, .inr (2, [.ref qRs, .int rlen, .int rsz])), (qRs, .inl (cT 2, 300, .inl rsg)), (qP, .inr (3, [.ref qPc, .ref qPl, .ref qPv, .int psz])), (qPc, .inl (cT 0, 12, .inl pcd)), (qPl, .inl (cT 0, 12, .inl pld)), (qPv, .inl (cT 1, 12, .inr (.inl pct))), (qL, .inr (4, [.ref qLj, .int lpr, .int (bI lful)])), (qLj, .inl (cT 0, 10, .inl ljn)), (qF, .inr (5, [.ref qFk, .ref qFf, .ref qFl, .int fsz])), (qFk, .inl (cT 0, 20, .inl fkd)), (qFf, .inl (cT 0, 20, .inl ffr)), (qFl, .inl (cT 0, 20, .inl fto))] s.heap.size = A at hD ⊢
  have hA : ∀ q : Nat, s.heap.size ≤ q → A q := fun q h => by rw [← hAe]; exact Or.inr h
  have hS : va_S A s.heap s.heap [] := va_S.rf
  have hl := lv_entry ([.ref qO, .int (bI p1)]) (n := 2) (Nat.le_of_ble_eq_true rfl)
  rw [lg_entry_eq]
  generalize (lg_sl ([.ref qO, .int (bI p1)]) ++ List.replicate (2 - (lg_sl ([.ref qO, .int (bI p1)])).length) Slot.unset).toArray = ls at hl ⊢
  have hl : lv_has ls 2 [(0, .ref qO), (1, .int (bI p1))] := hl
  have S : CallFix p m c b_Or_full 2 s _ TB R_Or := ⟨hx, hb, hml, hown, hts⟩
  unfold m_Or_full at hM
  refine lv_aload_n hx hb d_Or_full_0 rfl (lv_at hl 0 rfl) ?_
  refine va_get (D := D) (ci := 0) (v := .ref qL) (C := R_Or) (T := F_Or) (N := 11) hx hb hts i_Or hown hK hP 0 rfl rfl 3 (by decide) (hts _ iw_d5228362) (fun _ h9 => h9) rfl d_Or_full_1 ?_
  refine va_getN (D := D) (ci := 4) (v := .int (bI lful)) (C := R_Lands) (T := F_Lands) (N := 3) hx hb hts i_Lands hown hK hP 10 rfl rfl 2 (by decide) (va_Nw.use rfl (hN _ nl_99dff35d)) (fun _ h9 => h9) rfl d_Or_full_4 ?_
  refine lv_iload_n hx hb d_Or_full_7 rfl (lv_at hl 1 rfl) ?_
  refine lv_icmp_ne (tgt := 13) hx hb d_Or_full_8 (by decide) (fun c_8 => ?_) (fun c_8 => ?_)
  · have hM := itF hM c_8
    refine lv_aload_n hx hb d_Or_full_13 rfl (lv_at hl 0 rfl) ?_
    refine va_get (D := D) (ci := 0) (v := .ref qL) (C := R_Or) (T := F_Or) (N := 11) hx hb hts i_Or hown hK hP 0 rfl rfl 3 (by decide) (hts _ iw_d5228362) (fun _ h9 => h9) rfl d_Or_full_14 ?_
    refine lv_iload_n hx hb d_Or_full_17 rfl (lv_at hl 1 rfl) ?_
    refine va_putN (D := D) (ci := 4) (v := .int (bI p1)) (ty := .boolean) (C := R_Lands) (T := F_Lands) (N := 3) hx hb hts i_Lands t_Lands t_Lands_ok n_Lands hown hK hP hD hS 10 rfl rfl 2 (by decide) (va_Nw.use rfl (hN _ nl_99dff35d)) (fun _ h9 => h9) rfl (by decide +kernel) (bI_nar _) (bI_fit _) (Nat.le_of_ble_eq_true rfl) d_Or_full_18 (fun H locs hP hD hS => ?_)
    have hP : va_P D classes [(qO, .inr (0, [.ref qT, .ref qR, .ref qP, .ref qL, .ref qF, .int done, .int brd, .int tup, .int tdn, .ref qOa, .int askd])), (qOa, .inl (cT 0, 149, .inl answ)), (qT, .inr (1, [.ref qTs, .int tlen, .int tpl])), (qTs, .inl (cT 2, 300, .inl tsg)), (qR, .inr (2, [.ref qRs, .int rlen, .int rsz])), (qRs, .inl (cT 2, 300, .inl rsg)), (qP, .inr (3, [.ref qPc, .ref qPl, .ref qPv, .int psz])), (qPc, .inl (cT 0, 12, .inl pcd)), (qPl, .inl (cT 0, 12, .inl pld)), (qPv, .inl (cT 1, 12, .inr (.inl pct))), (qL, .inr (4, [.ref qLj, .int lpr, .int (bI p1)])), (qLj, .inl (cT 0, 10, .inl ljn)), (qF, .inr (5, [.ref qFk, .ref qFf, .ref qFl, .int fsz])), (qFk, .inl (cT 0, 20, .inl fkd)), (qFf, .inl (cT 0, 20, .inl ffr)), (qFl, .inl (cT 0, 20, .inl fto))] H := hP
    have hD : va_D A [(qO, .inr (0, [.ref qT, .ref qR, .ref qP, .ref qL, .ref qF, .int done, .int brd, .int tup, .int tdn, .ref qOa, .int askd])), (qOa, .inl (cT 0, 149, .inl answ)), (qT, .inr (1, [.ref qTs, .int tlen, .int tpl])), (qTs, .inl (cT 2, 300, .inl tsg)), (qR, .inr (2, [.ref qRs, .int rlen, .int rsz])), (qRs, .inl (cT 2, 300, .inl rsg)), (qP, .inr (3, [.ref qPc, .ref qPl, .ref qPv, .int psz])), (qPc, .inl (cT 0, 12, .inl pcd)), (qPl, .inl (cT 0, 12, .inl pld)), (qPv, .inl (cT 1, 12, .inr (.inl pct))), (qL, .inr (4, [.ref qLj, .int lpr, .int (bI p1)])), (qLj, .inl (cT 0, 10, .inl ljn)), (qF, .inr (5, [.ref qFk, .ref qFf, .ref qFl, .int fsz])), (qFk, .inl (cT 0, 20, .inl fkd)), (qFf, .inl (cT 0, 20, .inl ffr)), (qFl, .inl (cT 0, 20, .inl fto))] := hD
    refine lv_iconst (v := 1) hx hb d_Or_full_21 (by decide) ?_
    obtain ⟨eo0, eo1⟩ := so2T hM
    subst eo0
    subst eo1
    exact rt_z S hr hlocks hP hD hS d_Or_full_22
  · have hM := itT hM c_8
    refine lv_iconst (v := 0) hx hb d_Or_full_11 (by decide) ?_
    obtain ⟨eo0, eo1⟩ := so2T hM
    subst eo0
    subst eo1
    exact rt_z S hr hlocks hP hD hS d_Or_full_12
def rm_Or_tolerance : Room := { frames := 0, cells := 0, slots := 0, locals := 0 }
set_option maxHeartbeats 4000000 in
set_option maxRecDepth 100000 in
theorem c_Or_tolerance (l : Launch) (D : va_G) (cT : Nat → ClassId) (qO : Nat) (qOa : Nat) (qT : Nat) (qTs : Nat) (qR : Nat) (qRs : Nat) (qP : Nat) (qPc : Nat) (qPl : Nat) (qPv : Nat) (qL : Nat) (qLj : Nat) (qF : Nat) (qFk : Nat) (qFf : Nat) (qFl : Nat) (done : Int32) (brd : Int32) (tup : Int32) (tdn : Int32) (askd : Int32) (answ : Nat → Int32) (tlen : Int32) (tpl : Int32) (tsg : Nat → Int32) (rlen : Int32) (rsz : Int32) (rsg : Nat → Int32) (psz : Int32) (pcd : Nat → Int32) (pld : Nat → Int32) (pct : Nat → Int64) (lpr : Int32) (lful : Bool) (ljn : Nat → Int32) (fsz : Int32) (fkd : Nat → Int32) (ffr : Nat → Int32) (fto : Nat → Int32) (p1 : Int32) (p2 : Int32) {rr : Bool} {o_tup : Int32} {o_tdn : Int32} (hM : m_Or_tolerance p1 p2 tup tdn = some (rr, o_tup, o_tdn)) : Ct l y_Or_tolerance (WS y_Or_tolerance b_Or_tolerance 3 (some .boolean)) rm_Or_tolerance D cT [.ref qO, .int p1, .int p2] [(qO, .inr (0, [.ref qT, .ref qR, .ref qP, .ref qL, .ref qF, .int done, .int brd, .int tup, .int tdn, .ref qOa, .int askd])), (qOa, .inl (cT 0, 149, .inl answ)), (qT, .inr (1, [.ref qTs, .int tlen, .int tpl])), (qTs, .inl (cT 2, 300, .inl tsg)), (qR, .inr (2, [.ref qRs, .int rlen, .int rsz])), (qRs, .inl (cT 2, 300, .inl rsg)), (qP, .inr (3, [.ref qPc, .ref qPl, .ref qPv, .int psz])), (qPc, .inl (cT 0, 12, .inl pcd)), (qPl, .inl (cT 0, 12, .inl pld)), (qPv, .inl (cT 1, 12, .inr (.inl pct))), (qL, .inr (4, [.ref qLj, .int lpr, .int (bI lful)])), (qLj, .inl (cT 0, 10, .inl ljn)), (qF, .inr (5, [.ref qFk, .ref qFf, .ref qFl, .int fsz])), (qFk, .inl (cT 0, 20, .inl fkd)), (qFf, .inl (cT 0, 20, .inl ffr)), (qFl, .inl (cT 0, 20, .inl fto))] (some (.int (bI rr))) [(qO, .inr (0, [.ref qT, .ref qR, .ref qP, .ref qL, .ref qF, .int done, .int brd, .int o_tup, .int o_tdn, .ref qOa, .int askd])), (qOa, .inl (cT 0, 149, .inl answ)), (qT, .inr (1, [.ref qTs, .int tlen, .int tpl])), (qTs, .inl (cT 2, 300, .inl tsg)), (qR, .inr (2, [.ref qRs, .int rlen, .int rsz])), (qRs, .inl (cT 2, 300, .inl rsg)), (qP, .inr (3, [.ref qPc, .ref qPl, .ref qPv, .int psz])), (qPc, .inl (cT 0, 12, .inl pcd)), (qPl, .inl (cT 0, 12, .inl pld)), (qPv, .inl (cT 1, 12, .inr (.inl pct))), (qL, .inr (4, [.ref qLj, .int lpr, .int (bI lful)])), (qLj, .inl (cT 0, 10, .inl ljn)), (qF, .inr (5, [.ref qFk, .ref qFf, .ref qFl, .int fsz])), (qFk, .inl (cT 0, 20, .inl fkd)), (qFf, .inl (cT 0, 20, .inl ffr)), (qFl, .inl (cT 0, 20, .inl fto))] 0 0 := by
  intro sz
  refine Met.ofW (cc := b_Or_tolerance) (maxL := 3) (ret := (some .boolean)) (by decide) rfl ?_
  intro p e s m args below meth c s₁ B hml hv
  obtain ⟨rfl, hsz, hP, hE, hD0⟩ := hv
  have hx := B.exec
  have hb := B.bytes
  have hr := B.returns
  have hts : ∀ w ∈ TB, w.before _ s = true := fun w h => atoms_spec (ws := WS y_Or_tolerance b_Or_tolerance 3 (some .boolean)) B.pre w (List.mem_cons_of_mem _ h)
  have hown : s.vm.findClass R_Or = some m.cls := findClass_of_methodNamed B.named
  have hlocks := B.notSynchronized
  have hK := hE.1
  have hN := hE.2
  subst hsz
  have hD := hD0.self (sz := s.heap.size)
  generalize hAe : va_A [(qO, .inr (0, [.ref qT, .ref qR, .ref qP, .ref qL, .ref qF, .int done, .int brd, .int tup, .int tdn, .ref qOa, .int askd])), (qOa, .inl (cT 0, 149, .inl answ)), (qT, .inr (1, [.ref qTs, .int tlen, .int tpl])), (qTs, .inl (cT 2, 300, .inl tsg)), (qR, .inr (2, [.ref qRs, .int rlen, .int rsz])), (qRs, .inl (cT 2, 300, .inl rsg)), (qP, .inr (3, [.ref qPc, .ref qPl, .ref qPv, .int psz])), (qPc, .inl (cT 0, 12, .inl pcd)), (qPl, .inl (cT 0, 12, .inl pld)), (qPv, .inl (cT 1, 12, .inr (.inl pct))), (qL, .inr (4, [.ref qLj, .int lpr, .int (bI lful)])), (qLj, .inl (cT 0, 10, .inl ljn)), (qF, .inr (5, [.ref qFk, .ref qFf, .ref qFl, .int fsz])), (qFk, .inl (cT 0, 20, .inl fkd)), (qFf, .inl (cT 0, 20, .inl ffr)), (qFl, .inl (cT 0, 20, .inl fto))] s.heap.size = A at hD ⊢
  have hA : ∀ q : Nat, s.heap.size ≤ q → A q := fun q h => by rw [← hAe]; exact Or.inr h
  have hS : va_S A s.heap s.heap [] := va_S.rf
  have hl := lv_entry ([.ref qO, .int p1, .int p2]) (n := 3) (Nat.le_of_ble_eq_true rfl)
  rw [lg_entry_eq]
  generalize (lg_sl ([.ref qO, .int p1, .int p2]) ++ List.replicate (3 - (lg_sl ([.ref qO, .int p1, .int p2])).length) Slot.unset).toArray = ls at hl ⊢
  have hl : lv_has ls 3 [(0, .ref qO), (1, .int p1), (2, .int p2)] := hl
  have S : CallFix p m c b_Or_tolerance 3 s _ TB R_Or := ⟨hx, hb, hml, hown, hts⟩
  unfold m_Or_tolerance at hM
  refine lv_iload_n hx hb d_Or_tolerance_0 rfl (lv_at hl 2 rfl) ?_
  refine lv_iconst (v := 1) hx hb d_Or_tolerance_1 (by decide) ?_
  refine lv_icmp_lt (tgt := 21) hx hb d_Or_tolerance_2 (by decide) (fun c_2 => ?_) (fun c_2 => ?_)
  · have hM := itT hM c_2
    refine lv_iconst (v := 0) hx hb d_Or_tolerance_21 (by decide) ?_
    obtain ⟨eo0, eo1, eo2⟩ := so3T hM
    subst eo0
    subst eo1
    subst eo2
    exact rt_z S hr hlocks hP hD hS d_Or_tolerance_22
  · have hM := itF hM c_2
    refine lv_iload_n hx hb d_Or_tolerance_5 rfl (lv_at hl 2 rfl) ?_
    refine lv_sipush (v := 1000) hx hb d_Or_tolerance_6 (by decide) ?_
    refine lv_icmp_gt (tgt := 21) hx hb d_Or_tolerance_9 (by decide) (fun c_9 => ?_) (fun c_9 => ?_)
    · have hM := itT hM c_9
      refine lv_iconst (v := 0) hx hb d_Or_tolerance_21 (by decide) ?_
      obtain ⟨eo0, eo1, eo2⟩ := so3T hM
      subst eo0
      subst eo1
      subst eo2
      exact rt_z S hr hlocks hP hD hS d_Or_tolerance_22
    · have hM := itF hM c_9
      refine lv_iload_n hx hb d_Or_tolerance_12 rfl (lv_at hl 1 rfl) ?_
      refine lv_if_lt (tgt := 21) hx hb d_Or_tolerance_13 (by decide) (fun c_13 => ?_) (fun c_13 => ?_)
      · have hM := itT hM c_13
        refine lv_iconst (v := 0) hx hb d_Or_tolerance_21 (by decide) ?_
        obtain ⟨eo0, eo1, eo2⟩ := so3T hM
        subst eo0
        subst eo1
        subst eo2
        exact rt_z S hr hlocks hP hD hS d_Or_tolerance_22
      · have hM := itF hM c_13
        refine lv_iload_n hx hb d_Or_tolerance_16 rfl (lv_at hl 1 rfl) ?_
        refine lv_iload_n hx hb d_Or_tolerance_17 rfl (lv_at hl 2 rfl) ?_
        refine lv_icmp_le (tgt := 23) hx hb d_Or_tolerance_18 (by decide) (fun c_18 => ?_) (fun c_18 => ?_)
        · have hM := itT hM c_18
          refine lv_aload_n hx hb d_Or_tolerance_23 rfl (lv_at hl 0 rfl) ?_
          refine lv_iload_n hx hb d_Or_tolerance_24 rfl (lv_at hl 1 rfl) ?_
          refine va_put (D := D) (ci := 0) (v := .int p1) (ty := .int) (C := R_Or) (T := F_Or) (N := 11) hx hb hts i_Or t_Or t_Or_ok n_Or hown hK hP hD hS 0 rfl rfl 7 (by decide) (hts _ iw_ca124b6b) (fun _ h9 => h9) rfl (by decide +kernel) rfl rfl (Nat.le_of_ble_eq_true rfl) d_Or_tolerance_25 (fun H locs hP hD hS => ?_)
          have hP : va_P D classes [(qO, .inr (0, [.ref qT, .ref qR, .ref qP, .ref qL, .ref qF, .int done, .int brd, .int p1, .int tdn, .ref qOa, .int askd])), (qOa, .inl (cT 0, 149, .inl answ)), (qT, .inr (1, [.ref qTs, .int tlen, .int tpl])), (qTs, .inl (cT 2, 300, .inl tsg)), (qR, .inr (2, [.ref qRs, .int rlen, .int rsz])), (qRs, .inl (cT 2, 300, .inl rsg)), (qP, .inr (3, [.ref qPc, .ref qPl, .ref qPv, .int psz])), (qPc, .inl (cT 0, 12, .inl pcd)), (qPl, .inl (cT 0, 12, .inl pld)), (qPv, .inl (cT 1, 12, .inr (.inl pct))), (qL, .inr (4, [.ref qLj, .int lpr, .int (bI lful)])), (qLj, .inl (cT 0, 10, .inl ljn)), (qF, .inr (5, [.ref qFk, .ref qFf, .ref qFl, .int fsz])), (qFk, .inl (cT 0, 20, .inl fkd)), (qFf, .inl (cT 0, 20, .inl ffr)), (qFl, .inl (cT 0, 20, .inl fto))] H := hP
          have hD : va_D A [(qO, .inr (0, [.ref qT, .ref qR, .ref qP, .ref qL, .ref qF, .int done, .int brd, .int p1, .int tdn, .ref qOa, .int askd])), (qOa, .inl (cT 0, 149, .inl answ)), (qT, .inr (1, [.ref qTs, .int tlen, .int tpl])), (qTs, .inl (cT 2, 300, .inl tsg)), (qR, .inr (2, [.ref qRs, .int rlen, .int rsz])), (qRs, .inl (cT 2, 300, .inl rsg)), (qP, .inr (3, [.ref qPc, .ref qPl, .ref qPv, .int psz])), (qPc, .inl (cT 0, 12, .inl pcd)), (qPl, .inl (cT 0, 12, .inl pld)), (qPv, .inl (cT 1, 12, .inr (.inl pct))), (qL, .inr (4, [.ref qLj, .int lpr, .int (bI lful)])), (qLj, .inl (cT 0, 10, .inl ljn)), (qF, .inr (5, [.ref qFk, .ref qFf, .ref qFl, .int fsz])), (qFk, .inl (cT 0, 20, .inl fkd)), (qFf, .inl (cT 0, 20, .inl ffr)), (qFl, .inl (cT 0, 20, .inl fto))] := hD
          refine lv_aload_n hx hb d_Or_tolerance_28 rfl (lv_at hl 0 rfl) ?_
          refine lv_iload_n hx hb d_Or_tolerance_29 rfl (lv_at hl 2 rfl) ?_
          refine va_put (D := D) (ci := 0) (v := .int p2) (ty := .int) (C := R_Or) (T := F_Or) (N := 11) hx hb hts i_Or t_Or t_Or_ok n_Or hown hK hP hD hS 0 rfl rfl 8 (by decide) (hts _ iw_572302aa) (fun _ h9 => h9) rfl (by decide +kernel) rfl rfl (Nat.le_of_ble_eq_true rfl) d_Or_tolerance_30 (fun H locs hP hD hS => ?_)
          have hP : va_P D classes [(qO, .inr (0, [.ref qT, .ref qR, .ref qP, .ref qL, .ref qF, .int done, .int brd, .int p1, .int p2, .ref qOa, .int askd])), (qOa, .inl (cT 0, 149, .inl answ)), (qT, .inr (1, [.ref qTs, .int tlen, .int tpl])), (qTs, .inl (cT 2, 300, .inl tsg)), (qR, .inr (2, [.ref qRs, .int rlen, .int rsz])), (qRs, .inl (cT 2, 300, .inl rsg)), (qP, .inr (3, [.ref qPc, .ref qPl, .ref qPv, .int psz])), (qPc, .inl (cT 0, 12, .inl pcd)), (qPl, .inl (cT 0, 12, .inl pld)), (qPv, .inl (cT 1, 12, .inr (.inl pct))), (qL, .inr (4, [.ref qLj, .int lpr, .int (bI lful)])), (qLj, .inl (cT 0, 10, .inl ljn)), (qF, .inr (5, [.ref qFk, .ref qFf, .ref qFl, .int fsz])), (qFk, .inl (cT 0, 20, .inl fkd)), (qFf, .inl (cT 0, 20, .inl ffr)), (qFl, .inl (cT 0, 20, .inl fto))] H := hP
          have hD : va_D A [(qO, .inr (0, [.ref qT, .ref qR, .ref qP, .ref qL, .ref qF, .int done, .int brd, .int p1, .int p2, .ref qOa, .int askd])), (qOa, .inl (cT 0, 149, .inl answ)), (qT, .inr (1, [.ref qTs, .int tlen, .int tpl])), (qTs, .inl (cT 2, 300, .inl tsg)), (qR, .inr (2, [.ref qRs, .int rlen, .int rsz])), (qRs, .inl (cT 2, 300, .inl rsg)), (qP, .inr (3, [.ref qPc, .ref qPl, .ref qPv, .int psz])), (qPc, .inl (cT 0, 12, .inl pcd)), (qPl, .inl (cT 0, 12, .inl pld)), (qPv, .inl (cT 1, 12, .inr (.inl pct))), (qL, .inr (4, [.ref qLj, .int lpr, .int (bI lful)])), (qLj, .inl (cT 0, 10, .inl ljn)), (qF, .inr (5, [.ref qFk, .ref qFf, .ref qFl, .int fsz])), (qFk, .inl (cT 0, 20, .inl fkd)), (qFf, .inl (cT 0, 20, .inl ffr)), (qFl, .inl (cT 0, 20, .inl fto))] := hD
          refine lv_iconst (v := 1) hx hb d_Or_tolerance_33 (by decide) ?_
          obtain ⟨eo0, eo1, eo2⟩ := so3T hM
          subst eo0
          subst eo1
          subst eo2
          exact rt_z S hr hlocks hP hD hS d_Or_tolerance_34
        · have hM := itF hM c_18
          refine lv_iconst (v := 0) hx hb d_Or_tolerance_21 (by decide) ?_
          obtain ⟨eo0, eo1, eo2⟩ := so3T hM
          subst eo0
          subst eo1
          subst eo2
          exact rt_z S hr hlocks hP hD hS d_Or_tolerance_22
def rm_Or_why : Room := { frames := 0, cells := 0, slots := 0, locals := 0 }
set_option maxHeartbeats 4000000 in
set_option maxRecDepth 100000 in
theorem c_Or_why (l : Launch) (D : va_G) (cT : Nat → ClassId) (qO : Nat) (qOa : Nat) (qT : Nat) (qTs : Nat) (qR : Nat) (qRs : Nat) (qP : Nat) (qPc : Nat) (qPl : Nat) (qPv : Nat) (qL : Nat) (qLj : Nat) (qF : Nat) (qFk : Nat) (qFf : Nat) (qFl : Nat) (done : Int32) (brd : Int32) (tup : Int32) (tdn : Int32) (askd : Int32) (answ : Nat → Int32) (tlen : Int32) (tpl : Int32) (tsg : Nat → Int32) (rlen : Int32) (rsz : Int32) (rsg : Nat → Int32) (psz : Int32) (pcd : Nat → Int32) (pld : Nat → Int32) (pct : Nat → Int64) (lpr : Int32) (lful : Bool) (ljn : Nat → Int32) (fsz : Int32) (fkd : Nat → Int32) (ffr : Nat → Int32) (fto : Nat → Int32) (p1 : Int32) {rr : Int32} (hM : m_Or_why p1 askd answ = some rr) : Ct l y_Or_why (WS y_Or_why b_Or_why 2 (some .int)) rm_Or_why D cT [.ref qO, .int p1] [(qO, .inr (0, [.ref qT, .ref qR, .ref qP, .ref qL, .ref qF, .int done, .int brd, .int tup, .int tdn, .ref qOa, .int askd])), (qOa, .inl (cT 0, 149, .inl answ)), (qT, .inr (1, [.ref qTs, .int tlen, .int tpl])), (qTs, .inl (cT 2, 300, .inl tsg)), (qR, .inr (2, [.ref qRs, .int rlen, .int rsz])), (qRs, .inl (cT 2, 300, .inl rsg)), (qP, .inr (3, [.ref qPc, .ref qPl, .ref qPv, .int psz])), (qPc, .inl (cT 0, 12, .inl pcd)), (qPl, .inl (cT 0, 12, .inl pld)), (qPv, .inl (cT 1, 12, .inr (.inl pct))), (qL, .inr (4, [.ref qLj, .int lpr, .int (bI lful)])), (qLj, .inl (cT 0, 10, .inl ljn)), (qF, .inr (5, [.ref qFk, .ref qFf, .ref qFl, .int fsz])), (qFk, .inl (cT 0, 20, .inl fkd)), (qFf, .inl (cT 0, 20, .inl ffr)), (qFl, .inl (cT 0, 20, .inl fto))] (some (.int rr)) [(qO, .inr (0, [.ref qT, .ref qR, .ref qP, .ref qL, .ref qF, .int done, .int brd, .int tup, .int tdn, .ref qOa, .int askd])), (qOa, .inl (cT 0, 149, .inl answ)), (qT, .inr (1, [.ref qTs, .int tlen, .int tpl])), (qTs, .inl (cT 2, 300, .inl tsg)), (qR, .inr (2, [.ref qRs, .int rlen, .int rsz])), (qRs, .inl (cT 2, 300, .inl rsg)), (qP, .inr (3, [.ref qPc, .ref qPl, .ref qPv, .int psz])), (qPc, .inl (cT 0, 12, .inl pcd)), (qPl, .inl (cT 0, 12, .inl pld)), (qPv, .inl (cT 1, 12, .inr (.inl pct))), (qL, .inr (4, [.ref qLj, .int lpr, .int (bI lful)])), (qLj, .inl (cT 0, 10, .inl ljn)), (qF, .inr (5, [.ref qFk, .ref qFf, .ref qFl, .int fsz])), (qFk, .inl (cT 0, 20, .inl fkd)), (qFf, .inl (cT 0, 20, .inl ffr)), (qFl, .inl (cT 0, 20, .inl fto))] 0 0 := by
  intro sz
  refine Met.ofW (cc := b_Or_why) (maxL := 2) (ret := (some .int)) (by decide) rfl ?_
  intro p e s m args below meth c s₁ B hml hv
  obtain ⟨rfl, hsz, hP, hE, hD0⟩ := hv
  have hx := B.exec
  have hb := B.bytes
  have hr := B.returns
  have hts : ∀ w ∈ TB, w.before _ s = true := fun w h => atoms_spec (ws := WS y_Or_why b_Or_why 2 (some .int)) B.pre w (List.mem_cons_of_mem _ h)
  have hown : s.vm.findClass R_Or = some m.cls := findClass_of_methodNamed B.named
  have hlocks := B.notSynchronized
  have hK := hE.1
  have hN := hE.2
  subst hsz
  have hD := hD0.self (sz := s.heap.size)
  generalize hAe : va_A [(qO, .inr (0, [.ref qT, .ref qR, .ref qP, .ref qL, .ref qF, .int done, .int brd, .int tup, .int tdn, .ref qOa, .int askd])), (qOa, .inl (cT 0, 149, .inl answ)), (qT, .inr (1, [.ref qTs, .int tlen, .int tpl])), (qTs, .inl (cT 2, 300, .inl tsg)), (qR, .inr (2, [.ref qRs, .int rlen, .int rsz])), (qRs, .inl (cT 2, 300, .inl rsg)), (qP, .inr (3, [.ref qPc, .ref qPl, .ref qPv, .int psz])), (qPc, .inl (cT 0, 12, .inl pcd)), (qPl, .inl (cT 0, 12, .inl pld)), (qPv, .inl (cT 1, 12, .inr (.inl pct))), (qL, .inr (4, [.ref qLj, .int lpr, .int (bI lful)])), (qLj, .inl (cT 0, 10, .inl ljn)), (qF, .inr (5, [.ref qFk, .ref qFf, .ref qFl, .int fsz])), (qFk, .inl (cT 0, 20, .inl fkd)), (qFf, .inl (cT 0, 20, .inl ffr)), (qFl, .inl (cT 0, 20, .inl fto))] s.heap.size = A at hD ⊢
  have hA : ∀ q : Nat, s.heap.size ≤ q → A q := fun q h => by rw [← hAe]; exact Or.inr h
  have hS : va_S A s.heap s.heap [] := va_S.rf
  have hl := lv_entry ([.ref qO, .int p1]) (n := 2) (Nat.le_of_ble_eq_true rfl)
  rw [lg_entry_eq]
  generalize (lg_sl ([.ref qO, .int p1]) ++ List.replicate (2 - (lg_sl ([.ref qO, .int p1])).length) Slot.unset).toArray = ls at hl ⊢
  have hl : lv_has ls 2 [(0, .ref qO), (1, .int p1)] := hl
  have S : CallFix p m c b_Or_why 2 s _ TB R_Or := ⟨hx, hb, hml, hown, hts⟩
  unfold m_Or_why at hM
  refine lv_iload_n hx hb d_Or_why_0 rfl (lv_at hl 1 rfl) ?_
  refine lv_if_lt (tgt := 21) hx hb d_Or_why_1 (by decide) (fun c_1 => ?_) (fun c_1 => ?_)
  · have hM := itT hM c_1
    refine lv_iconst (v := (-1)) hx hb d_Or_why_21 (by decide) ?_
    have eo0 := Option.some.inj hM
    subst eo0
    exact rt_i S hr hlocks hP hD hS d_Or_why_22
  · have hM := itF hM c_1
    refine lv_iload_n hx hb d_Or_why_4 rfl (lv_at hl 1 rfl) ?_
    refine lv_aload_n hx hb d_Or_why_5 rfl (lv_at hl 0 rfl) ?_
    refine va_get (D := D) (ci := 0) (v := .int askd) (C := R_Or) (T := F_Or) (N := 11) hx hb hts i_Or hown hK hP 0 rfl rfl 10 (by decide) (hts _ iw_93c980ea) (fun _ h9 => h9) rfl d_Or_why_6 ?_
    refine lv_icmp_ge (tgt := 21) hx hb d_Or_why_9 (by decide) (fun c_9 => ?_) (fun c_9 => ?_)
    · have hM := itT hM c_9
      refine lv_iconst (v := (-1)) hx hb d_Or_why_21 (by decide) ?_
      have eo0 := Option.some.inj hM
      subst eo0
      exact rt_i S hr hlocks hP hD hS d_Or_why_22
    · have hM := itF hM c_9
      refine lv_aload_n hx hb d_Or_why_12 rfl (lv_at hl 0 rfl) ?_
      refine va_get (D := D) (ci := 0) (v := .ref qOa) (C := R_Or) (T := F_Or) (N := 11) hx hb hts i_Or hown hK hP 0 rfl rfl 9 (by decide) (hts _ iw_9424b9ac) (fun _ h9 => h9) rfl d_Or_why_13 ?_
      refine lv_iload_n hx hb d_Or_why_16 rfl (lv_at hl 1 rfl) ?_
      obtain ⟨hin_17, hM⟩ := ixT hM
      refine va_iald hx hb hK hP 1 0 rfl rfl hin_17 d_Or_why_17 ?_
      refine lv_goto (tgt := 22) hx hb d_Or_why_18 (by decide) ?_
      have eo0 := Option.some.inj hM
      subst eo0
      exact rt_i S hr hlocks hP hD hS d_Or_why_22
def rm_Or_count : Room := { frames := 2, cells := 0, slots := 0, locals := 44 }
set_option maxHeartbeats 4000000 in
set_option maxRecDepth 100000 in
theorem c_Or_count (l : Launch) (D : va_G) (cT : Nat → ClassId) (qO : Nat) (qOa : Nat) (qT : Nat) (qTs : Nat) (qR : Nat) (qRs : Nat) (qP : Nat) (qPc : Nat) (qPl : Nat) (qPv : Nat) (qL : Nat) (qLj : Nat) (qF : Nat) (qFk : Nat) (qFf : Nat) (qFl : Nat) (done : Int32) (brd : Int32) (tup : Int32) (tdn : Int32) (askd : Int32) (answ : Nat → Int32) (tlen : Int32) (tpl : Int32) (tsg : Nat → Int32) (rlen : Int32) (rsz : Int32) (rsg : Nat → Int32) (psz : Int32) (pcd : Nat → Int32) (pld : Nat → Int32) (pct : Nat → Int64) (lpr : Int32) (lful : Bool) (ljn : Nat → Int32) (fsz : Int32) (fkd : Nat → Int32) (ffr : Nat → Int32) (fto : Nat → Int32) (p1 : Int32) {rr : Int32} (hM : m_Or_count p1 done askd tlen rsz psz pld lpr lful ljn fsz = some rr) : Ct l y_Or_count (WS y_Or_count b_Or_count 2 (some .int)) rm_Or_count D cT [.ref qO, .int p1] [(qO, .inr (0, [.ref qT, .ref qR, .ref qP, .ref qL, .ref qF, .int done, .int brd, .int tup, .int tdn, .ref qOa, .int askd])), (qOa, .inl (cT 0, 149, .inl answ)), (qT, .inr (1, [.ref qTs, .int tlen, .int tpl])), (qTs, .inl (cT 2, 300, .inl tsg)), (qR, .inr (2, [.ref qRs, .int rlen, .int rsz])), (qRs, .inl (cT 2, 300, .inl rsg)), (qP, .inr (3, [.ref qPc, .ref qPl, .ref qPv, .int psz])), (qPc, .inl (cT 0, 12, .inl pcd)), (qPl, .inl (cT 0, 12, .inl pld)), (qPv, .inl (cT 1, 12, .inr (.inl pct))), (qL, .inr (4, [.ref qLj, .int lpr, .int (bI lful)])), (qLj, .inl (cT 0, 10, .inl ljn)), (qF, .inr (5, [.ref qFk, .ref qFf, .ref qFl, .int fsz])), (qFk, .inl (cT 0, 20, .inl fkd)), (qFf, .inl (cT 0, 20, .inl ffr)), (qFl, .inl (cT 0, 20, .inl fto))] (some (.int rr)) [(qO, .inr (0, [.ref qT, .ref qR, .ref qP, .ref qL, .ref qF, .int done, .int brd, .int tup, .int tdn, .ref qOa, .int askd])), (qOa, .inl (cT 0, 149, .inl answ)), (qT, .inr (1, [.ref qTs, .int tlen, .int tpl])), (qTs, .inl (cT 2, 300, .inl tsg)), (qR, .inr (2, [.ref qRs, .int rlen, .int rsz])), (qRs, .inl (cT 2, 300, .inl rsg)), (qP, .inr (3, [.ref qPc, .ref qPl, .ref qPv, .int psz])), (qPc, .inl (cT 0, 12, .inl pcd)), (qPl, .inl (cT 0, 12, .inl pld)), (qPv, .inl (cT 1, 12, .inr (.inl pct))), (qL, .inr (4, [.ref qLj, .int lpr, .int (bI lful)])), (qLj, .inl (cT 0, 10, .inl ljn)), (qF, .inr (5, [.ref qFk, .ref qFf, .ref qFl, .int fsz])), (qFk, .inl (cT 0, 20, .inl fkd)), (qFf, .inl (cT 0, 20, .inl ffr)), (qFl, .inl (cT 0, 20, .inl fto))] 0 0 := by
  intro sz
  refine Met.ofW (cc := b_Or_count) (maxL := 2) (ret := (some .int)) (by decide) rfl ?_
  intro p e s m args below meth c s₁ B hml hv
  obtain ⟨rfl, hsz, hP, hE, hD0⟩ := hv
  have hx := B.exec
  have hb := B.bytes
  have hr := B.returns
  have hts : ∀ w ∈ TB, w.before _ s = true := fun w h => atoms_spec (ws := WS y_Or_count b_Or_count 2 (some .int)) B.pre w (List.mem_cons_of_mem _ h)
  have hown : s.vm.findClass R_Or = some m.cls := findClass_of_methodNamed B.named
  have hlocks := B.notSynchronized
  have hK := hE.1
  have hN := hE.2
  subst hsz
  have hD := hD0.self (sz := s.heap.size)
  generalize hAe : va_A [(qO, .inr (0, [.ref qT, .ref qR, .ref qP, .ref qL, .ref qF, .int done, .int brd, .int tup, .int tdn, .ref qOa, .int askd])), (qOa, .inl (cT 0, 149, .inl answ)), (qT, .inr (1, [.ref qTs, .int tlen, .int tpl])), (qTs, .inl (cT 2, 300, .inl tsg)), (qR, .inr (2, [.ref qRs, .int rlen, .int rsz])), (qRs, .inl (cT 2, 300, .inl rsg)), (qP, .inr (3, [.ref qPc, .ref qPl, .ref qPv, .int psz])), (qPc, .inl (cT 0, 12, .inl pcd)), (qPl, .inl (cT 0, 12, .inl pld)), (qPv, .inl (cT 1, 12, .inr (.inl pct))), (qL, .inr (4, [.ref qLj, .int lpr, .int (bI lful)])), (qLj, .inl (cT 0, 10, .inl ljn)), (qF, .inr (5, [.ref qFk, .ref qFf, .ref qFl, .int fsz])), (qFk, .inl (cT 0, 20, .inl fkd)), (qFf, .inl (cT 0, 20, .inl ffr)), (qFl, .inl (cT 0, 20, .inl fto))] s.heap.size = A at hD ⊢
  have hA : ∀ q : Nat, s.heap.size ≤ q → A q := fun q h => by rw [← hAe]; exact Or.inr h
  have hS : va_S A s.heap s.heap [] := va_S.rf
  have hl := lv_entry ([.ref qO, .int p1]) (n := 2) (Nat.le_of_ble_eq_true rfl)
  rw [lg_entry_eq]
  generalize (lg_sl ([.ref qO, .int p1]) ++ List.replicate (2 - (lg_sl ([.ref qO, .int p1])).length) Slot.unset).toArray = ls at hl ⊢
  have hl : lv_has ls 2 [(0, .ref qO), (1, .int p1)] := hl
  have S : CallFix p m c b_Or_count 2 s _ TB R_Or := ⟨hx, hb, hml, hown, hts⟩
  unfold m_Or_count at hM
  refine lv_iload_n hx hb d_Or_count_0 rfl (lv_at hl 1 rfl) ?_
  by_cases c_1_0 : p1 = 0
  · have hM := itT hM c_1_0
    refine lv_tableIn (tgt := 48) hx hb d_Or_count_1 (by rw [c_1_0]; decide) (by rw [c_1_0]; decide) (by rw [c_1_0]; rfl) (by decide) ?_
    refine lv_aload_n hx hb d_Or_count_48 rfl (lv_at hl 0 rfl) ?_
    refine va_get (D := D) (ci := 0) (v := .ref qT) (C := R_Or) (T := F_Or) (N := 11) hx hb hts i_Or hown hK hP 0 rfl rfl 0 (by decide) (hts _ iw_fe8faaa1) (fun _ h9 => h9) rfl d_Or_count_49 ?_
    refine va_getN (D := D) (ci := 1) (v := .int tlen) (C := R_Text) (T := F_Text) (N := 3) hx hb hts i_Text hown hK hP 2 rfl rfl 1 (by decide) (va_Nw.use rfl (hN _ nl_0894c6ac)) (fun _ h9 => h9) rfl d_Or_count_52 ?_
    have eo0 := Option.some.inj hM
    subst eo0
    exact rt_i S hr hlocks hP hD hS d_Or_count_55
  · have hM := itF hM c_1_0
    by_cases c_1_1 : p1 = 1
    · have hM := itT hM c_1_1
      refine lv_tableIn (tgt := 56) hx hb d_Or_count_1 (by rw [c_1_1]; decide) (by rw [c_1_1]; decide) (by rw [c_1_1]; rfl) (by decide) ?_
      refine lv_aload_n hx hb d_Or_count_56 rfl (lv_at hl 0 rfl) ?_
      refine va_get (D := D) (ci := 0) (v := .ref qR) (C := R_Or) (T := F_Or) (N := 11) hx hb hts i_Or hown hK hP 0 rfl rfl 1 (by decide) (hts _ iw_1ffb187c) (fun _ h9 => h9) rfl d_Or_count_57 ?_
      refine va_getN (D := D) (ci := 2) (v := .int rsz) (C := R_Rows) (T := F_Rows) (N := 3) hx hb hts i_Rows hown hK hP 4 rfl rfl 2 (by decide) (va_Nw.use rfl (hN _ nl_c18542d0)) (fun _ h9 => h9) rfl d_Or_count_60 ?_
      have eo0 := Option.some.inj hM
      subst eo0
      exact rt_i S hr hlocks hP hD hS d_Or_count_63
    · have hM := itF hM c_1_1
      by_cases c_1_2 : p1 = 2
      · have hM := itT hM c_1_2
        refine lv_tableIn (tgt := 64) hx hb d_Or_count_1 (by rw [c_1_2]; decide) (by rw [c_1_2]; decide) (by rw [c_1_2]; rfl) (by decide) ?_
        refine lv_aload_n hx hb d_Or_count_64 rfl (lv_at hl 0 rfl) ?_
        refine va_get (D := D) (ci := 0) (v := .ref qP) (C := R_Or) (T := F_Or) (N := 11) hx hb hts i_Or hown hK hP 0 rfl rfl 2 (by decide) (hts _ iw_4820ce3a) (fun _ h9 => h9) rfl d_Or_count_65 ?_
        refine va_getN (D := D) (ci := 3) (v := .int psz) (C := R_Parts) (T := F_Parts) (N := 4) hx hb hts i_Parts hown hK hP 6 rfl rfl 3 (by decide) (va_Nw.use rfl (hN _ nl_7ebd0f4f)) (fun _ h9 => h9) rfl d_Or_count_68 ?_
        have eo0 := Option.some.inj hM
        subst eo0
        exact rt_i S hr hlocks hP hD hS d_Or_count_71
      · have hM := itF hM c_1_2
        by_cases c_1_3 : p1 = 3
        · have hM := itT hM c_1_3
          refine lv_tableIn (tgt := 72) hx hb d_Or_count_1 (by rw [c_1_3]; decide) (by rw [c_1_3]; decide) (by rw [c_1_3]; rfl) (by decide) ?_
          refine lv_aload_n hx hb d_Or_count_72 rfl (lv_at hl 0 rfl) ?_
          refine va_get (D := D) (ci := 0) (v := .ref qP) (C := R_Or) (T := F_Or) (N := 11) hx hb hts i_Or hown hK hP 0 rfl rfl 2 (by decide) (hts _ iw_4820ce3a) (fun _ h9 => h9) rfl d_Or_count_73 ?_
          refine lv_aload_n hx hb d_Or_count_76 rfl (lv_at hl 0 rfl) ?_
          refine va_get (D := D) (ci := 0) (v := .ref qL) (C := R_Or) (T := F_Or) (N := 11) hx hb hts i_Or hown hK hP 0 rfl rfl 3 (by decide) (hts _ iw_d5228362) (fun _ h9 => h9) rfl d_Or_count_77 ?_
          obtain ⟨r_80, hc_80, hM⟩ := bd1T hM
          refine ca_V (As := []) (rest := [.ref qP]) (wr := [(qO, .inr (0, [.ref qT, .ref qR, .ref qP, .ref qL, .ref qF, .int done, .int brd, .int tup, .int tdn, .ref qOa, .int askd])), (qOa, .inl (cT 0, 149, .inl answ)), (qT, .inr (1, [.ref qTs, .int tlen, .int tpl])), (qTs, .inl (cT 2, 300, .inl tsg)), (qR, .inr (2, [.ref qRs, .int rlen, .int rsz])), (qRs, .inl (cT 2, 300, .inl rsg)), (qP, .inr (3, [.ref qPc, .ref qPl, .ref qPv, .int psz])), (qPc, .inl (cT 0, 12, .inl pcd)), (qPl, .inl (cT 0, 12, .inl pld)), (qPv, .inl (cT 1, 12, .inr (.inl pct))), (qF, .inr (5, [.ref qFk, .ref qFf, .ref qFl, .int fsz])), (qFk, .inl (cT 0, 20, .inl fkd)), (qFf, .inl (cT 0, 20, .inl ffr)), (qFl, .inl (cT 0, 20, .inl fto))]) (w2 := [(qO, .inr (0, [.ref qT, .ref qR, .ref qP, .ref qL, .ref qF, .int done, .int brd, .int tup, .int tdn, .ref qOa, .int askd])), (qOa, .inl (cT 0, 149, .inl answ)), (qT, .inr (1, [.ref qTs, .int tlen, .int tpl])), (qTs, .inl (cT 2, 300, .inl tsg)), (qR, .inr (2, [.ref qRs, .int rlen, .int rsz])), (qRs, .inl (cT 2, 300, .inl rsg)), (qP, .inr (3, [.ref qPc, .ref qPl, .ref qPv, .int psz])), (qPc, .inl (cT 0, 12, .inl pcd)), (qPl, .inl (cT 0, 12, .inl pld)), (qPv, .inl (cT 1, 12, .inr (.inl pct))), (qL, .inr (4, [.ref qLj, .int lpr, .int (bI lful)])), (qLj, .inl (cT 0, 10, .inl ljn)), (qF, .inr (5, [.ref qFk, .ref qFf, .ref qFl, .int fsz])), (qFk, .inl (cT 0, 20, .inl fkd)), (qFf, .inl (cT 0, 20, .inl ffr)), (qFl, .inl (cT 0, 20, .inl fto))]) S hE (c_Lands_ownLands l D cT qL qLj lpr lful ljn hc_80) gw_7c92819f rfl rfl ⟨Nat.le_of_ble_eq_true rfl, Nat.le_of_ble_eq_true rfl⟩ (ci := 4) rfl rfl (k0 := 0) rfl rfl hl.1 rfl (Nat.le_of_ble_eq_true rfl) d_Or_count_80 ⟨Nat.zero_le _, Nat.zero_le _⟩ hP hD hS hA [10, 11] [0, 1, 2, 3, 4, 5, 6, 7, 8, 9, 12, 13, 14, 15] [0, 1, 2, 3, 4, 5, 6, 7, 8, 9, 14, 15, 10, 11, 12, 13] rfl rfl (by decide) (by decide) rfl (by decide) (by decide) (fun H locs hP hD hS => ?_)
          obtain ⟨r_83, hc_83, hM⟩ := bd1T hM
          refine ca_V (As := [.int r_80]) (rest := []) (wr := [(qO, .inr (0, [.ref qT, .ref qR, .ref qP, .ref qL, .ref qF, .int done, .int brd, .int tup, .int tdn, .ref qOa, .int askd])), (qOa, .inl (cT 0, 149, .inl answ)), (qT, .inr (1, [.ref qTs, .int tlen, .int tpl])), (qTs, .inl (cT 2, 300, .inl tsg)), (qR, .inr (2, [.ref qRs, .int rlen, .int rsz])), (qRs, .inl (cT 2, 300, .inl rsg)), (qL, .inr (4, [.ref qLj, .int lpr, .int (bI lful)])), (qLj, .inl (cT 0, 10, .inl ljn)), (qF, .inr (5, [.ref qFk, .ref qFf, .ref qFl, .int fsz])), (qFk, .inl (cT 0, 20, .inl fkd)), (qFf, .inl (cT 0, 20, .inl ffr)), (qFl, .inl (cT 0, 20, .inl fto))]) (w2 := [(qO, .inr (0, [.ref qT, .ref qR, .ref qP, .ref qL, .ref qF, .int done, .int brd, .int tup, .int tdn, .ref qOa, .int askd])), (qOa, .inl (cT 0, 149, .inl answ)), (qT, .inr (1, [.ref qTs, .int tlen, .int tpl])), (qTs, .inl (cT 2, 300, .inl tsg)), (qR, .inr (2, [.ref qRs, .int rlen, .int rsz])), (qRs, .inl (cT 2, 300, .inl rsg)), (qP, .inr (3, [.ref qPc, .ref qPl, .ref qPv, .int psz])), (qPc, .inl (cT 0, 12, .inl pcd)), (qPl, .inl (cT 0, 12, .inl pld)), (qPv, .inl (cT 1, 12, .inr (.inl pct))), (qL, .inr (4, [.ref qLj, .int lpr, .int (bI lful)])), (qLj, .inl (cT 0, 10, .inl ljn)), (qF, .inr (5, [.ref qFk, .ref qFf, .ref qFl, .int fsz])), (qFk, .inl (cT 0, 20, .inl fkd)), (qFf, .inl (cT 0, 20, .inl ffr)), (qFl, .inl (cT 0, 20, .inl fto))]) S hE (c_Parts_foreignParts l D cT qP qPc qPl qPv psz pcd pld pct r_80 hc_83) gw_b71da9c0 rfl rfl ⟨Nat.le_of_ble_eq_true rfl, Nat.le_of_ble_eq_true rfl⟩ (ci := 3) rfl rfl (k0 := 0) rfl rfl hl.1 rfl (Nat.le_of_ble_eq_true rfl) d_Or_count_83 ⟨Nat.zero_le _, Nat.zero_le _⟩ hP hD hS hA [6, 7, 8, 9] [0, 1, 2, 3, 4, 5, 10, 11, 12, 13, 14, 15] [0, 1, 2, 3, 4, 5, 12, 13, 14, 15, 6, 7, 8, 9, 10, 11] rfl rfl (by decide) (by decide) rfl (by decide) (by decide) (fun H locs hP hD hS => ?_)
          have eo0 := Option.some.inj hM
          subst eo0
          exact rt_i S hr hlocks hP hD hS d_Or_count_86
        · have hM := itF hM c_1_3
          by_cases c_1_4 : p1 = 4
          · have hM := itT hM c_1_4
            refine lv_tableIn (tgt := 87) hx hb d_Or_count_1 (by rw [c_1_4]; decide) (by rw [c_1_4]; decide) (by rw [c_1_4]; rfl) (by decide) ?_
            refine lv_aload_n hx hb d_Or_count_87 rfl (lv_at hl 0 rfl) ?_
            refine va_get (D := D) (ci := 0) (v := .int done) (C := R_Or) (T := F_Or) (N := 11) hx hb hts i_Or hown hK hP 0 rfl rfl 5 (by decide) (hts _ iw_9350811e) (fun _ h9 => h9) rfl d_Or_count_88 ?_
            have eo0 := Option.some.inj hM
            subst eo0
            exact rt_i S hr hlocks hP hD hS d_Or_count_91
          · have hM := itF hM c_1_4
            by_cases c_1_5 : p1 = 5
            · have hM := itT hM c_1_5
              refine lv_tableIn (tgt := 92) hx hb d_Or_count_1 (by rw [c_1_5]; decide) (by rw [c_1_5]; decide) (by rw [c_1_5]; rfl) (by decide) ?_
              refine lv_aload_n hx hb d_Or_count_92 rfl (lv_at hl 0 rfl) ?_
              refine va_get (D := D) (ci := 0) (v := .ref qL) (C := R_Or) (T := F_Or) (N := 11) hx hb hts i_Or hown hK hP 0 rfl rfl 3 (by decide) (hts _ iw_d5228362) (fun _ h9 => h9) rfl d_Or_count_93 ?_
              refine va_getN (D := D) (ci := 4) (v := .int lpr) (C := R_Lands) (T := F_Lands) (N := 3) hx hb hts i_Lands hown hK hP 10 rfl rfl 1 (by decide) (va_Nw.use rfl (hN _ nl_08d1376b)) (fun _ h9 => h9) rfl d_Or_count_96 ?_
              have eo0 := Option.some.inj hM
              subst eo0
              exact rt_i S hr hlocks hP hD hS d_Or_count_99
            · have hM := itF hM c_1_5
              by_cases c_1_6 : p1 = 6
              · have hM := itT hM c_1_6
                refine lv_tableIn (tgt := 100) hx hb d_Or_count_1 (by rw [c_1_6]; decide) (by rw [c_1_6]; decide) (by rw [c_1_6]; rfl) (by decide) ?_
                refine lv_aload_n hx hb d_Or_count_100 rfl (lv_at hl 0 rfl) ?_
                refine va_get (D := D) (ci := 0) (v := .ref qF) (C := R_Or) (T := F_Or) (N := 11) hx hb hts i_Or hown hK hP 0 rfl rfl 4 (by decide) (hts _ iw_653e2ba4) (fun _ h9 => h9) rfl d_Or_count_101 ?_
                refine va_getN (D := D) (ci := 5) (v := .int fsz) (C := R_Proofs) (T := F_Proofs) (N := 4) hx hb hts i_Proofs hown hK hP 12 rfl rfl 3 (by decide) (va_Nw.use rfl (hN _ nl_564914ee)) (fun _ h9 => h9) rfl d_Or_count_104 ?_
                have eo0 := Option.some.inj hM
                subst eo0
                exact rt_i S hr hlocks hP hD hS d_Or_count_107
              · have hM := itF hM c_1_6
                by_cases c_1_7 : p1 = 7
                · have hM := itT hM c_1_7
                  refine lv_tableIn (tgt := 108) hx hb d_Or_count_1 (by rw [c_1_7]; decide) (by rw [c_1_7]; decide) (by rw [c_1_7]; rfl) (by decide) ?_
                  refine lv_aload_n hx hb d_Or_count_108 rfl (lv_at hl 0 rfl) ?_
                  refine va_get (D := D) (ci := 0) (v := .int askd) (C := R_Or) (T := F_Or) (N := 11) hx hb hts i_Or hown hK hP 0 rfl rfl 10 (by decide) (hts _ iw_93c980ea) (fun _ h9 => h9) rfl d_Or_count_109 ?_
                  have eo0 := Option.some.inj hM
                  subst eo0
                  exact rt_i S hr hlocks hP hD hS d_Or_count_112
                · have hM := itF hM c_1_7
                  refine lv_tableOut (tgt := 113) hx hb d_Or_count_1 (tsw8 c_1_0 c_1_1 c_1_2 c_1_3 c_1_4 c_1_5 c_1_6 c_1_7) (by decide) ?_
                  refine lv_iconst (v := (-1)) hx hb d_Or_count_113 (by decide) ?_
                  have eo0 := Option.some.inj hM
                  subst eo0
                  exact rt_i S hr hlocks hP hD hS d_Or_count_114
