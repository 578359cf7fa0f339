def rmx_Or_part : Room := { frames := 6, cells := 1, slots := 6, locals := 100 }
set_option maxHeartbeats 4000000 in
set_option maxRecDepth 100000 in
theorem x_Or_part (l : Launch) (hl0 : l.stackTraces = false) (D : va_G) (cT : Nat → ClassId) (qO : Nat) (qOa : Nat) (qT : Nat) (qTs : Nat) (qR : Nat) (qRs : Nat) (qP : Nat) (qPc : Nat) (qPl : Nat) (qPv : Nat) (qL : Nat) (qLj : Nat) (qF : Nat) (qFk : Nat) (qFf : Nat) (qFl : Nat) (done : Int32) (brd : Int32) (tup : Int32) (tdn : Int32) (askd : Int32) (answ : Nat → Int32) (tlen : Int32) (tpl : Int32) (tsg : Nat → Int32) (rlen : Int32) (rsz : Int32) (rsg : Nat → Int32) (psz : Int32) (pcd : Nat → Int32) (pld : Nat → Int32) (pct : Nat → Int64) (lpr : Int32) (lful : Bool) (ljn : Nat → Int32) (fsz : Int32) (fkd : Nat → Int32) (ffr : Nat → Int32) (fto : Nat → Int32) (p1 : Int32) (p2 : Int32) (p3 : Int64) {ee : Nat} (hM : m_Or_part p1 p2 p3 psz pcd pld pct = some (.inl ee)) : CtX l y_Or_part (WS y_Or_part b_Or_part 5 (some .int)) rmx_Or_part D cT [.ref qO, .int p1, .int p2, .long p3] [(qO, .inr (0, [.ref qT, .ref qR, .ref qP, .ref qL, .ref qF, .int done, .int brd, .int tup, .int tdn, .ref qOa, .int askd])), (qOa, .inl (cT 0, 149, .inl answ)), (qT, .inr (1, [.ref qTs, .int tlen, .int tpl])), (qTs, .inl (cT 2, 300, .inl tsg)), (qR, .inr (2, [.ref qRs, .int rlen, .int rsz])), (qRs, .inl (cT 2, 300, .inl rsg)), (qP, .inr (3, [.ref qPc, .ref qPl, .ref qPv, .int psz])), (qPc, .inl (cT 0, 12, .inl pcd)), (qPl, .inl (cT 0, 12, .inl pld)), (qPv, .inl (cT 1, 12, .inr (.inl pct))), (qL, .inr (4, [.ref qLj, .int lpr, .int (bI lful)])), (qLj, .inl (cT 0, 10, .inl ljn)), (qF, .inr (5, [.ref qFk, .ref qFf, .ref qFl, .int fsz])), (qFk, .inl (cT 0, 20, .inl fkd)), (qFf, .inl (cT 0, 20, .inl ffr)), (qFl, .inl (cT 0, 20, .inl fto))] (exn ee) 1 6 := by
  intro sz
  refine MetX.ofW (cc := b_Or_part) (maxL := 5) (ret := (some .int)) (by decide) rfl ?_
  intro p e s m args below meth c s₁ B hml htab hv
  obtain ⟨rfl, hsz, hP, hE, hD0, hTE⟩ := hv
  have hx := B.exec
  have hb := B.bytes
  have hr := B.returns
  have hts : ∀ w ∈ TB, w.before _ s = true := fun w h => atoms_spec (ws := WS y_Or_part b_Or_part 5 (some .int)) B.pre w (List.mem_cons_of_mem _ h)
  have hown : s.vm.findClass R_Or = some m.cls := findClass_of_methodNamed B.named
  have hlocks := B.notSynchronized
  have hK := hE.1
  have hN := hE.2
  have hHs : s.heap.size ≤ s.heap.size := Nat.le_refl _
  have hl := lv_entry ([.ref qO, .int p1, .int p2, .long p3]) (n := 5) (Nat.le_of_ble_eq_true rfl)
  rw [lg_entry_eq]
  generalize (lg_sl ([.ref qO, .int p1, .int p2, .long p3]) ++ List.replicate (5 - (lg_sl ([.ref qO, .int p1, .int p2, .long p3])).length) Slot.unset).toArray = ls at hl ⊢
  have hl : lv_has ls 5 [(0, .ref qO), (1, .int p1), (2, .int p2), (3, .long p3)] := hl
  have S : CallFix p m c b_Or_part 5 s _ TB R_Or := ⟨hx, hb, hml, hown, hts⟩
  unfold m_Or_part at hM
  refine lv_iload_n hx hb d_Or_part_0 rfl (lv_at hl 1 rfl) ?_
  obtain ⟨r_1, hc_1, hM⟩ := bd1T hM
  refine cp_S (As := [.int p1]) (rest := []) S hE (c_Or_isCode l D cT p1 hc_1) gw_078e8e0a rfl rfl ⟨Nat.le_of_ble_eq_true rfl, Nat.le_of_ble_eq_true rfl⟩ rfl hl.1 rfl (Nat.le_of_ble_eq_true rfl) d_Or_part_1 ⟨Nat.zero_le _, Nat.zero_le _⟩ hP hHs (fun H hP hHs => ?_)
  refine lv_if_eq (tgt := 21) hx hb d_Or_part_4 (by decide) (fun c_4 => ?_) (fun c_4 => ?_)
  · have hM := itT hM c_4
    have ee0 := inlT hM
    subst ee0
    obtain ⟨sa, hstr⟩ := hTE.2.2.2 (R_Or, 96, "no such code, land or cents") sl_0
    exact ex_throw (cls := "java/lang/IllegalArgumentException") (names := ["java/lang/RuntimeException", "java/lang/Exception"]) hx hb hl0 hown (by decide +kernel) (by decide +kernel) (hts _ iw_c7afea35) (hts _ iw_d0f19f4e) hstr (ow_all hts hTE oa_0) (by rw [hml]; exact hl.1) hlocks htab d_Or_part_21 d_Or_part_24 d_Or_part_25 d_Or_part_27 d_Or_part_30 (Nat.le_of_ble_eq_true rfl) (Nat.le_of_ble_eq_true rfl) (Nat.le_of_ble_eq_true rfl) (Nat.le_of_ble_eq_true rfl) (Nat.le_of_ble_eq_true rfl) (Nat.le_of_ble_eq_true rfl)
  · have hM := itF hM c_4
    refine lv_iload_n hx hb d_Or_part_7 rfl (lv_at hl 2 rfl) ?_
    obtain ⟨r_8, hc_8, hM⟩ := bd1T hM
    refine cp_S (As := [.int p2]) (rest := []) S hE (c_Or_isLand l D cT p2 hc_8) gw_1f2c9aaf rfl rfl ⟨Nat.le_of_ble_eq_true rfl, Nat.le_of_ble_eq_true rfl⟩ rfl hl.1 rfl (Nat.le_of_ble_eq_true rfl) d_Or_part_8 ⟨Nat.zero_le _, Nat.zero_le _⟩ hP hHs (fun H hP hHs => ?_)
    refine lv_if_eq (tgt := 21) hx hb d_Or_part_11 (by decide) (fun c_11 => ?_) (fun c_11 => ?_)
    · have hM := itT hM c_11
      have ee0 := inlT hM
      subst ee0
      obtain ⟨sa, hstr⟩ := hTE.2.2.2 (R_Or, 96, "no such code, land or cents") sl_0
      exact ex_throw (cls := "java/lang/IllegalArgumentException") (names := ["java/lang/RuntimeException", "java/lang/Exception"]) hx hb hl0 hown (by decide +kernel) (by decide +kernel) (hts _ iw_c7afea35) (hts _ iw_d0f19f4e) hstr (ow_all hts hTE oa_0) (by rw [hml]; exact hl.1) hlocks htab d_Or_part_21 d_Or_part_24 d_Or_part_25 d_Or_part_27 d_Or_part_30 (Nat.le_of_ble_eq_true rfl) (Nat.le_of_ble_eq_true rfl) (Nat.le_of_ble_eq_true rfl) (Nat.le_of_ble_eq_true rfl) (Nat.le_of_ble_eq_true rfl) (Nat.le_of_ble_eq_true rfl)
    · have hM := itF hM c_11
      refine lv_lload_n hx hb d_Or_part_14 rfl (lv_at hl 3 rfl) ?_
      obtain ⟨r_15, hc_15, hM⟩ := bd1T hM
      refine cp_S (As := [.long p3]) (rest := []) S hE (c_Or_isCents l D cT p3 hc_15) gw_25f3dde8 rfl rfl ⟨Nat.le_of_ble_eq_true rfl, Nat.le_of_ble_eq_true rfl⟩ rfl hl.1 rfl (Nat.le_of_ble_eq_true rfl) d_Or_part_15 ⟨Nat.zero_le _, Nat.zero_le _⟩ hP hHs (fun H hP hHs => ?_)
      refine lv_if_ne (tgt := 31) hx hb d_Or_part_18 (by decide) (fun c_18 => ?_) (fun c_18 => ?_)
      · have hM := itF hM c_18
        refine lv_aload_n hx hb d_Or_part_31 rfl (lv_at hl 0 rfl) ?_
        refine va_get (D := D) (ci := 0) (v := .ref qP) (C := R_Or) (T := F_Or) (N := 11) hx hb hts i_Or hown hK hP 0 rfl rfl 2 (by decide) (hts _ iw_4820ce3a) (fun _ h9 => h9) rfl d_Or_part_32 ?_
        refine va_getN (D := D) (ci := 3) (v := .int psz) (C := R_Parts) (T := F_Parts) (N := 4) hx hb hts i_Parts hown hK hP 6 rfl rfl 3 (by decide) (va_Nw.use rfl (hN _ nl_7ebd0f4f)) (fun _ h9 => h9) rfl d_Or_part_35 ?_
        refine lv_bipush (v := 12) hx hb d_Or_part_38 (by decide) ?_
        refine lv_icmp_lt (tgt := 53) hx hb d_Or_part_40 (by decide) (fun c_40 => ?_) (fun c_40 => ?_)
        · have hM := itT hM c_40
          exfalso
          obtain ⟨r_60, psz_60, pcd_60, pld_60, pct_60, hc_60, hM⟩ := bd5T hM
          exact absurd hM (by simp)
        · have hM := itF hM c_40
          have ee0 := inlT hM
          subst ee0
          obtain ⟨sa, hstr⟩ := hTE.2.2.2 (R_Or, 106, "there are 12 parts") sl_1
          exact ex_throw (cls := "java/lang/IllegalStateException") (names := ["java/lang/RuntimeException", "java/lang/Exception"]) hx hb hl0 hown (by decide +kernel) (by decide +kernel) (hts _ iw_cfd4a4e2) (hts _ iw_89165b4d) hstr (ow_all hts hTE oa_1) (by rw [hml]; exact hl.1) hlocks htab d_Or_part_43 d_Or_part_46 d_Or_part_47 d_Or_part_49 d_Or_part_52 (Nat.le_of_ble_eq_true rfl) (Nat.le_of_ble_eq_true rfl) (Nat.le_of_ble_eq_true rfl) (Nat.le_of_ble_eq_true rfl) (Nat.le_of_ble_eq_true rfl) (Nat.le_of_ble_eq_true rfl)
      · have hM := itT hM c_18
        have ee0 := inlT hM
        subst ee0
        obtain ⟨sa, hstr⟩ := hTE.2.2.2 (R_Or, 96, "no such code, land or cents") sl_0
        exact ex_throw (cls := "java/lang/IllegalArgumentException") (names := ["java/lang/RuntimeException", "java/lang/Exception"]) hx hb hl0 hown (by decide +kernel) (by decide +kernel) (hts _ iw_c7afea35) (hts _ iw_d0f19f4e) hstr (ow_all hts hTE oa_0) (by rw [hml]; exact hl.1) hlocks htab d_Or_part_21 d_Or_part_24 d_Or_part_25 d_Or_part_27 d_Or_part_30 (Nat.le_of_ble_eq_true rfl) (Nat.le_of_ble_eq_true rfl) (Nat.le_of_ble_eq_true rfl) (Nat.le_of_ble_eq_true rfl) (Nat.le_of_ble_eq_true rfl) (Nat.le_of_ble_eq_true rfl)
def rmx_Or_join : Room := { frames := 6, cells := 1, slots := 6, locals := 100 }
set_option maxHeartbeats 4000000 in
set_option maxRecDepth 100000 in
theorem x_Or_join (l : Launch) (hl0 : l.stackTraces = false) (D : va_G) (cT : Nat → ClassId) (qO : Nat) (qOa : Nat) (qT : Nat) (qTs : Nat) (qR : Nat) (qRs : Nat) (qP : Nat) (qPc : Nat) (qPl : Nat) (qPv : Nat) (qL : Nat) (qLj : Nat) (qF : Nat) (qFk : Nat) (qFf : Nat) (qFl : Nat) (done : Int32) (brd : Int32) (tup : Int32) (tdn : Int32) (askd : Int32) (answ : Nat → Int32) (tlen : Int32) (tpl : Int32) (tsg : Nat → Int32) (rlen : Int32) (rsz : Int32) (rsg : Nat → Int32) (psz : Int32) (pcd : Nat → Int32) (pld : Nat → Int32) (pct : Nat → Int64) (lpr : Int32) (lful : Bool) (ljn : Nat → Int32) (fsz : Int32) (fkd : Nat → Int32) (ffr : Nat → Int32) (fto : Nat → Int32) (p1 : Int32) (p2 : Int32) {ee : Nat} (hM : m_Or_join p1 p2 lpr ljn = some (.inl ee)) : CtX l y_Or_join (WS y_Or_join b_Or_join 3 (some .int)) rmx_Or_join D cT [.ref qO, .int p1, .int p2] [(qO, .inr (0, [.ref qT, .ref qR, .ref qP, .ref qL, .ref qF, .int done, .int brd, .int tup, .int tdn, .ref qOa, .int askd])), (qOa, .inl (cT 0, 149, .inl answ)), (qT, .inr (1, [.ref qTs, .int tlen, .int tpl])), (qTs, .inl (cT 2, 300, .inl tsg)), (qR, .inr (2, [.ref qRs, .int rlen, .int rsz])), (qRs, .inl (cT 2, 300, .inl rsg)), (qP, .inr (3, [.ref qPc, .ref qPl, .ref qPv, .int psz])), (qPc, .inl (cT 0, 12, .inl pcd)), (qPl, .inl (cT 0, 12, .inl pld)), (qPv, .inl (cT 1, 12, .inr (.inl pct))), (qL, .inr (4, [.ref qLj, .int lpr, .int (bI lful)])), (qLj, .inl (cT 0, 10, .inl ljn)), (qF, .inr (5, [.ref qFk, .ref qFf, .ref qFl, .int fsz])), (qFk, .inl (cT 0, 20, .inl fkd)), (qFf, .inl (cT 0, 20, .inl ffr)), (qFl, .inl (cT 0, 20, .inl fto))] (exn ee) 1 6 := by
  intro sz
  refine MetX.ofW (cc := b_Or_join) (maxL := 3) (ret := (some .int)) (by decide) rfl ?_
  intro p e s m args below meth c s₁ B hml htab hv
  obtain ⟨rfl, hsz, hP, hE, hD0, hTE⟩ := hv
  have hx := B.exec
  have hb := B.bytes
  have hr := B.returns
  have hts : ∀ w ∈ TB, w.before _ s = true := fun w h => atoms_spec (ws := WS y_Or_join b_Or_join 3 (some .int)) B.pre w (List.mem_cons_of_mem _ h)
  have hown : s.vm.findClass R_Or = some m.cls := findClass_of_methodNamed B.named
  have hlocks := B.notSynchronized
  have hK := hE.1
  have hN := hE.2
  have hHs : s.heap.size ≤ s.heap.size := Nat.le_refl _
  have hl := lv_entry ([.ref qO, .int p1, .int p2]) (n := 3) (Nat.le_of_ble_eq_true rfl)
  rw [lg_entry_eq]
  generalize (lg_sl ([.ref qO, .int p1, .int p2]) ++ List.replicate (3 - (lg_sl ([.ref qO, .int p1, .int p2])).length) Slot.unset).toArray = ls at hl ⊢
  have hl : lv_has ls 3 [(0, .ref qO), (1, .int p1), (2, .int p2)] := hl
  have S : CallFix p m c b_Or_join 3 s _ TB R_Or := ⟨hx, hb, hml, hown, hts⟩
  unfold m_Or_join at hM
  refine lv_iload_n hx hb d_Or_join_0 rfl (lv_at hl 1 rfl) ?_
  obtain ⟨r_1, hc_1, hM⟩ := bd1T hM
  refine cp_S (As := [.int p1]) (rest := []) S hE (c_Or_isLand l D cT p1 hc_1) gw_1f2c9aaf rfl rfl ⟨Nat.le_of_ble_eq_true rfl, Nat.le_of_ble_eq_true rfl⟩ rfl hl.1 rfl (Nat.le_of_ble_eq_true rfl) d_Or_join_1 ⟨Nat.zero_le _, Nat.zero_le _⟩ hP hHs (fun H hP hHs => ?_)
  refine lv_if_eq (tgt := 19) hx hb d_Or_join_4 (by decide) (fun c_4 => ?_) (fun c_4 => ?_)
  · have hM := itT hM c_4
    have ee0 := inlT hM
    subst ee0
    obtain ⟨sa, hstr⟩ := hTE.2.2.2 (R_Or, 122, "no such lands, or one land") sl_2
    exact ex_throw (cls := "java/lang/IllegalArgumentException") (names := ["java/lang/RuntimeException", "java/lang/Exception"]) hx hb hl0 hown (by decide +kernel) (by decide +kernel) (hts _ iw_c7afea35) (hts _ iw_d0f19f4e) hstr (ow_all hts hTE oa_0) (by rw [hml]; exact hl.1) hlocks htab d_Or_join_19 d_Or_join_22 d_Or_join_23 d_Or_join_25 d_Or_join_28 (Nat.le_of_ble_eq_true rfl) (Nat.le_of_ble_eq_true rfl) (Nat.le_of_ble_eq_true rfl) (Nat.le_of_ble_eq_true rfl) (Nat.le_of_ble_eq_true rfl) (Nat.le_of_ble_eq_true rfl)
  · have hM := itF hM c_4
    refine lv_iload_n hx hb d_Or_join_7 rfl (lv_at hl 2 rfl) ?_
    obtain ⟨r_8, hc_8, hM⟩ := bd1T hM
    refine cp_S (As := [.int p2]) (rest := []) S hE (c_Or_isLand l D cT p2 hc_8) gw_1f2c9aaf rfl rfl ⟨Nat.le_of_ble_eq_true rfl, Nat.le_of_ble_eq_true rfl⟩ rfl hl.1 rfl (Nat.le_of_ble_eq_true rfl) d_Or_join_8 ⟨Nat.zero_le _, Nat.zero_le _⟩ hP hHs (fun H hP hHs => ?_)
    refine lv_if_eq (tgt := 19) hx hb d_Or_join_11 (by decide) (fun c_11 => ?_) (fun c_11 => ?_)
    · have hM := itT hM c_11
      have ee0 := inlT hM
      subst ee0
      obtain ⟨sa, hstr⟩ := hTE.2.2.2 (R_Or, 122, "no such lands, or one land") sl_2
      exact ex_throw (cls := "java/lang/IllegalArgumentException") (names := ["java/lang/RuntimeException", "java/lang/Exception"]) hx hb hl0 hown (by decide +kernel) (by decide +kernel) (hts _ iw_c7afea35) (hts _ iw_d0f19f4e) hstr (ow_all hts hTE oa_0) (by rw [hml]; exact hl.1) hlocks htab d_Or_join_19 d_Or_join_22 d_Or_join_23 d_Or_join_25 d_Or_join_28 (Nat.le_of_ble_eq_true rfl) (Nat.le_of_ble_eq_true rfl) (Nat.le_of_ble_eq_true rfl) (Nat.le_of_ble_eq_true rfl) (Nat.le_of_ble_eq_true rfl) (Nat.le_of_ble_eq_true rfl)
    · have hM := itF hM c_11
      refine lv_iload_n hx hb d_Or_join_14 rfl (lv_at hl 1 rfl) ?_
      refine lv_iload_n hx hb d_Or_join_15 rfl (lv_at hl 2 rfl) ?_
      refine lv_icmp_ne (tgt := 29) hx hb d_Or_join_16 (by decide) (fun c_16 => ?_) (fun c_16 => ?_)
      · have hM := itF hM c_16
        exfalso
        obtain ⟨r_35, lpr_35, ljn_35, hc_35, hM⟩ := bd3T hM
        by_cases c_38 : (bI r_35) = 0
        · have hM := itT hM c_38
          exact absurd hM (by simp)
        · have hM := itF hM c_38
          exact absurd hM (by simp)
      · have hM := itT hM c_16
        have ee0 := inlT hM
        subst ee0
        obtain ⟨sa, hstr⟩ := hTE.2.2.2 (R_Or, 122, "no such lands, or one land") sl_2
        exact ex_throw (cls := "java/lang/IllegalArgumentException") (names := ["java/lang/RuntimeException", "java/lang/Exception"]) hx hb hl0 hown (by decide +kernel) (by decide +kernel) (hts _ iw_c7afea35) (hts _ iw_d0f19f4e) hstr (ow_all hts hTE oa_0) (by rw [hml]; exact hl.1) hlocks htab d_Or_join_19 d_Or_join_22 d_Or_join_23 d_Or_join_25 d_Or_join_28 (Nat.le_of_ble_eq_true rfl) (Nat.le_of_ble_eq_true rfl) (Nat.le_of_ble_eq_true rfl) (Nat.le_of_ble_eq_true rfl) (Nat.le_of_ble_eq_true rfl) (Nat.le_of_ble_eq_true rfl)
def rmx_Or_verdict : Room := { frames := 6, cells := 1, slots := 6, locals := 131 }
set_option maxHeartbeats 4000000 in
set_option maxRecDepth 100000 in
theorem x_Or_verdict (l : Launch) (hl0 : l.stackTraces = false) (D : va_G) (cT : Nat → ClassId) (qO : Nat) (qOa : Nat) (qT : Nat) (qTs : Nat) (qR : Nat) (qRs : Nat) (qP : Nat) (qPc : Nat) (qPl : Nat) (qPv : Nat) (qL : Nat) (qLj : Nat) (qF : Nat) (qFk : Nat) (qFf : Nat) (qFl : Nat) (done : Int32) (brd : Int32) (tup : Int32) (tdn : Int32) (askd : Int32) (answ : Nat → Int32) (tlen : Int32) (tpl : Int32) (tsg : Nat → Int32) (rlen : Int32) (rsz : Int32) (rsg : Nat → Int32) (psz : Int32) (pcd : Nat → Int32) (pld : Nat → Int32) (pct : Nat → Int64) (lpr : Int32) (lful : Bool) (ljn : Nat → Int32) (fsz : Int32) (fkd : Nat → Int32) (ffr : Nat → Int32) (fto : Nat → Int32) (p1 : Int32) (p2 : Int64) {ee : Nat} (hM : m_Or_verdict p1 p2 done brd tup tdn rlen rsg psz pcd pld pct lful ljn askd answ = some (.inl ee)) : CtX l y_Or_verdict (WS y_Or_verdict b_Or_verdict 5 (some .int)) rmx_Or_verdict D cT [.ref qO, .int p1, .long p2] [(qO, .inr (0, [.ref qT, .ref qR, .ref qP, .ref qL, .ref qF, .int done, .int brd, .int tup, .int tdn, .ref qOa, .int askd])), (qOa, .inl (cT 0, 149, .inl answ)), (qT, .inr (1, [.ref qTs, .int tlen, .int tpl])), (qTs, .inl (cT 2, 300, .inl tsg)), (qR, .inr (2, [.ref qRs, .int rlen, .int rsz])), (qRs, .inl (cT 2, 300, .inl rsg)), (qP, .inr (3, [.ref qPc, .ref qPl, .ref qPv, .int psz])), (qPc, .inl (cT 0, 12, .inl pcd)), (qPl, .inl (cT 0, 12, .inl pld)), (qPv, .inl (cT 1, 12, .inr (.inl pct))), (qL, .inr (4, [.ref qLj, .int lpr, .int (bI lful)])), (qLj, .inl (cT 0, 10, .inl ljn)), (qF, .inr (5, [.ref qFk, .ref qFf, .ref qFl, .int fsz])), (qFk, .inl (cT 0, 20, .inl fkd)), (qFf, .inl (cT 0, 20, .inl ffr)), (qFl, .inl (cT 0, 20, .inl fto))] (exn ee) 1 6 := by
  intro sz
  refine MetX.ofW (cc := b_Or_verdict) (maxL := 5) (ret := (some .int)) (by decide) rfl ?_
  intro p e s m args below meth c s₁ B hml htab hv
  obtain ⟨rfl, hsz, hP, hE, hD0, hTE⟩ := hv
  have hx := B.exec
  have hb := B.bytes
  have hr := B.returns
  have hts : ∀ w ∈ TB, w.before _ s = true := fun w h => atoms_spec (ws := WS y_Or_verdict b_Or_verdict 5 (some .int)) B.pre w (List.mem_cons_of_mem _ h)
  have hown : s.vm.findClass R_Or = some m.cls := findClass_of_methodNamed B.named
  have hlocks := B.notSynchronized
  have hK := hE.1
  have hN := hE.2
  have hHs : s.heap.size ≤ s.heap.size := Nat.le_refl _
  have hl := lv_entry ([.ref qO, .int p1, .long p2]) (n := 5) (Nat.le_of_ble_eq_true rfl)
  rw [lg_entry_eq]
  generalize (lg_sl ([.ref qO, .int p1, .long p2]) ++ List.replicate (5 - (lg_sl ([.ref qO, .int p1, .long p2])).length) Slot.unset).toArray = ls at hl ⊢
  have hl : lv_has ls 5 [(0, .ref qO), (1, .int p1), (2, .long p2)] := hl
  have S : CallFix p m c b_Or_verdict 5 s _ TB R_Or := ⟨hx, hb, hml, hown, hts⟩
  unfold m_Or_verdict at hM
  refine lv_iload_n hx hb d_Or_verdict_0 rfl (lv_at hl 1 rfl) ?_
  obtain ⟨r_1, hc_1, hM⟩ := bd1T hM
  refine cp_S (As := [.int p1]) (rest := []) S hE (c_Or_isCode l D cT p1 hc_1) gw_078e8e0a rfl rfl ⟨Nat.le_of_ble_eq_true rfl, Nat.le_of_ble_eq_true rfl⟩ rfl hl.1 rfl (Nat.le_of_ble_eq_true rfl) d_Or_verdict_1 ⟨Nat.zero_le _, Nat.zero_le _⟩ hP hHs (fun H hP hHs => ?_)
  refine lv_if_eq (tgt := 14) hx hb d_Or_verdict_4 (by decide) (fun c_4 => ?_) (fun c_4 => ?_)
  · have hM := itT hM c_4
    have ee0 := inlT hM
    subst ee0
    obtain ⟨sa, hstr⟩ := hTE.2.2.2 (R_Or, 131, "no such code or price") sl_3
    exact ex_throw (cls := "java/lang/IllegalArgumentException") (names := ["java/lang/RuntimeException", "java/lang/Exception"]) hx hb hl0 hown (by decide +kernel) (by decide +kernel) (hts _ iw_c7afea35) (hts _ iw_d0f19f4e) hstr (ow_all hts hTE oa_0) (by rw [hml]; exact hl.1) hlocks htab d_Or_verdict_14 d_Or_verdict_17 d_Or_verdict_18 d_Or_verdict_20 d_Or_verdict_23 (Nat.le_of_ble_eq_true rfl) (Nat.le_of_ble_eq_true rfl) (Nat.le_of_ble_eq_true rfl) (Nat.le_of_ble_eq_true rfl) (Nat.le_of_ble_eq_true rfl) (Nat.le_of_ble_eq_true rfl)
  · have hM := itF hM c_4
    refine lv_lload_n hx hb d_Or_verdict_7 rfl (lv_at hl 2 rfl) ?_
    obtain ⟨r_8, hc_8, hM⟩ := bd1T hM
    refine cp_S (As := [.long p2]) (rest := []) S hE (c_Or_isCents l D cT p2 hc_8) gw_25f3dde8 rfl rfl ⟨Nat.le_of_ble_eq_true rfl, Nat.le_of_ble_eq_true rfl⟩ rfl hl.1 rfl (Nat.le_of_ble_eq_true rfl) d_Or_verdict_8 ⟨Nat.zero_le _, Nat.zero_le _⟩ hP hHs (fun H hP hHs => ?_)
    refine lv_if_ne (tgt := 24) hx hb d_Or_verdict_11 (by decide) (fun c_11 => ?_) (fun c_11 => ?_)
    · have hM := itF hM c_11
      exfalso
      obtain ⟨r_29, hc_29, hM⟩ := bd1T hM
      by_cases c_37 : r_29 = (-1)
      · have hM := itT hM c_37
        exact absurd hM (by simp)
      · have hM := itF hM c_37
        by_cases c_46 : done = 0
        · have hM := itT hM c_46
          obtain ⟨r_70, askd_70, answ_70, hc_70, hM⟩ := bd3T hM
          by_cases c_73 : (bI r_70) = 0
          · have hM := itT hM c_73
            exact absurd hM (by simp)
          · have hM := itF hM c_73
            exact absurd hM (by simp)
        · have hM := itF hM c_46
          by_cases c_60 : (done &&& (brd ^^^ (-1))) = 0
          · have hM := itT hM c_60
            exact absurd hM (by simp)
          · have hM := itF hM c_60
            obtain ⟨r_70, askd_70, answ_70, hc_70, hM⟩ := bd3T hM
            by_cases c_73 : (bI r_70) = 0
            · have hM := itT hM c_73
              exact absurd hM (by simp)
            · have hM := itF hM c_73
              exact absurd hM (by simp)
    · have hM := itT hM c_11
      have ee0 := inlT hM
      subst ee0
      obtain ⟨sa, hstr⟩ := hTE.2.2.2 (R_Or, 131, "no such code or price") sl_3
      exact ex_throw (cls := "java/lang/IllegalArgumentException") (names := ["java/lang/RuntimeException", "java/lang/Exception"]) hx hb hl0 hown (by decide +kernel) (by decide +kernel) (hts _ iw_c7afea35) (hts _ iw_d0f19f4e) hstr (ow_all hts hTE oa_0) (by rw [hml]; exact hl.1) hlocks htab d_Or_verdict_14 d_Or_verdict_17 d_Or_verdict_18 d_Or_verdict_20 d_Or_verdict_23 (Nat.le_of_ble_eq_true rfl) (Nat.le_of_ble_eq_true rfl) (Nat.le_of_ble_eq_true rfl) (Nat.le_of_ble_eq_true rfl) (Nat.le_of_ble_eq_true rfl) (Nat.le_of_ble_eq_true rfl)
def rmx_Or_share : Room := { frames := 6, cells := 1, slots := 6, locals := 100 }
set_option maxHeartbeats 4000000 in
set_option maxRecDepth 100000 in
theorem x_Or_share (l : Launch) (hl0 : l.stackTraces = false) (D : va_G) (cT : Nat → ClassId) (qO : Nat) (qOa : Nat) (qT : Nat) (qTs : Nat) (qR : Nat) (qRs : Nat) (qP : Nat) (qPc : Nat) (qPl : Nat) (qPv : Nat) (qL : Nat) (qLj : Nat) (qF : Nat) (qFk : Nat) (qFf : Nat) (qFl : Nat) (done : Int32) (brd : Int32) (tup : Int32) (tdn : Int32) (askd : Int32) (answ : Nat → Int32) (tlen : Int32) (tpl : Int32) (tsg : Nat → Int32) (rlen : Int32) (rsz : Int32) (rsg : Nat → Int32) (psz : Int32) (pcd : Nat → Int32) (pld : Nat → Int32) (pct : Nat → Int64) (lpr : Int32) (lful : Bool) (ljn : Nat → Int32) (fsz : Int32) (fkd : Nat → Int32) (ffr : Nat → Int32) (fto : Nat → Int32) (p1 : Int64) (p2 : Int32) {ee : Nat} (hM : m_Or_share p1 p2 psz pld pct lful ljn = some (.inl ee)) : CtX l y_Or_share (WS y_Or_share b_Or_share 8 (some .long)) rmx_Or_share D cT [.ref qO, .long p1, .int p2] [(qO, .inr (0, [.ref qT, .ref qR, .ref qP, .ref qL, .ref qF, .int done, .int brd, .int tup, .int tdn, .ref qOa, .int askd])), (qOa, .inl (cT 0, 149, .inl answ)), (qT, .inr (1, [.ref qTs, .int tlen, .int tpl])), (qTs, .inl (cT 2, 300, .inl tsg)), (qR, .inr (2, [.ref qRs, .int rlen, .int rsz])), (qRs, .inl (cT 2, 300, .inl rsg)), (qP, .inr (3, [.ref qPc, .ref qPl, .ref qPv, .int psz])), (qPc, .inl (cT 0, 12, .inl pcd)), (qPl, .inl (cT 0, 12, .inl pld)), (qPv, .inl (cT 1, 12, .inr (.inl pct))), (qL, .inr (4, [.ref qLj, .int lpr, .int (bI lful)])), (qLj, .inl (cT 0, 10, .inl ljn)), (qF, .inr (5, [.ref qFk, .ref qFf, .ref qFl, .int fsz])), (qFk, .inl (cT 0, 20, .inl fkd)), (qFf, .inl (cT 0, 20, .inl ffr)), (qFl, .inl (cT 0, 20, .inl fto))] (exn ee) 1 6 := by
  intro sz
  refine MetX.ofW (cc := b_Or_share) (maxL := 8) (ret := (some .long)) (by decide) rfl ?_
  intro p e s m args below meth c s₁ B hml htab hv
  obtain ⟨rfl, hsz, hP, hE, hD0, hTE⟩ := hv
  have hx := B.exec
  have hb := B.bytes
  have hr := B.returns
  have hts : ∀ w ∈ TB, w.before _ s = true := fun w h => atoms_spec (ws := WS y_Or_share b_Or_share 8 (some .long)) B.pre w (List.mem_cons_of_mem _ h)
  have hown : s.vm.findClass R_Or = some m.cls := findClass_of_methodNamed B.named
  have hlocks := B.notSynchronized
  have hK := hE.1
  have hN := hE.2
  have hHs : s.heap.size ≤ s.heap.size := Nat.le_refl _
  have hl := lv_entry ([.ref qO, .long p1, .int p2]) (n := 8) (Nat.le_of_ble_eq_true rfl)
  rw [lg_entry_eq]
  generalize (lg_sl ([.ref qO, .long p1, .int p2]) ++ List.replicate (8 - (lg_sl ([.ref qO, .long p1, .int p2])).length) Slot.unset).toArray = ls at hl ⊢
  have hl : lv_has ls 8 [(0, .ref qO), (1, .long p1), (3, .int p2)] := hl
  have S : CallFix p m c b_Or_share 8 s _ TB R_Or := ⟨hx, hb, hml, hown, hts⟩
  unfold m_Or_share at hM
  refine lv_lload_n hx hb d_Or_share_0 rfl (lv_at hl 1 rfl) ?_
  obtain ⟨r_1, hc_1, hM⟩ := bd1T hM
  refine cp_S (As := [.long p1]) (rest := []) S hE (c_Or_isCents l D cT p1 hc_1) gw_25f3dde8 rfl rfl ⟨Nat.le_of_ble_eq_true rfl, Nat.le_of_ble_eq_true rfl⟩ rfl hl.1 rfl (Nat.le_of_ble_eq_true rfl) d_Or_share_1 ⟨Nat.zero_le _, Nat.zero_le _⟩ hP hHs (fun H hP hHs => ?_)
  refine lv_if_eq (tgt := 16) hx hb d_Or_share_4 (by decide) (fun c_4 => ?_) (fun c_4 => ?_)
  · have hM := itT hM c_4
    have ee0 := inlT hM
    subst ee0
    obtain ⟨sa, hstr⟩ := hTE.2.2.2 (R_Or, 141, "no such price or side") sl_4
    exact ex_throw (cls := "java/lang/IllegalArgumentException") (names := ["java/lang/RuntimeException", "java/lang/Exception"]) hx hb hl0 hown (by decide +kernel) (by decide +kernel) (hts _ iw_c7afea35) (hts _ iw_d0f19f4e) hstr (ow_all hts hTE oa_0) (by rw [hml]; exact hl.1) hlocks htab d_Or_share_16 d_Or_share_19 d_Or_share_20 d_Or_share_22 d_Or_share_25 (Nat.le_of_ble_eq_true rfl) (Nat.le_of_ble_eq_true rfl) (Nat.le_of_ble_eq_true rfl) (Nat.le_of_ble_eq_true rfl) (Nat.le_of_ble_eq_true rfl) (Nat.le_of_ble_eq_true rfl)
  · have hM := itF hM c_4
    refine lv_iload_n hx hb d_Or_share_7 rfl (lv_at hl 2 rfl) ?_
    refine lv_if_lt (tgt := 16) hx hb d_Or_share_8 (by decide) (fun c_8 => ?_) (fun c_8 => ?_)
    · have hM := itT hM c_8
      have ee0 := inlT hM
      subst ee0
      obtain ⟨sa, hstr⟩ := hTE.2.2.2 (R_Or, 141, "no such price or side") sl_4
      exact ex_throw (cls := "java/lang/IllegalArgumentException") (names := ["java/lang/RuntimeException", "java/lang/Exception"]) hx hb hl0 hown (by decide +kernel) (by decide +kernel) (hts _ iw_c7afea35) (hts _ iw_d0f19f4e) hstr (ow_all hts hTE oa_0) (by rw [hml]; exact hl.1) hlocks htab d_Or_share_16 d_Or_share_19 d_Or_share_20 d_Or_share_22 d_Or_share_25 (Nat.le_of_ble_eq_true rfl) (Nat.le_of_ble_eq_true rfl) (Nat.le_of_ble_eq_true rfl) (Nat.le_of_ble_eq_true rfl) (Nat.le_of_ble_eq_true rfl) (Nat.le_of_ble_eq_true rfl)
    · have hM := itF hM c_8
      refine lv_iload_n hx hb d_Or_share_11 rfl (lv_at hl 2 rfl) ?_
      refine lv_iconst (v := 1) hx hb d_Or_share_12 (by decide) ?_
      refine lv_icmp_le (tgt := 26) hx hb d_Or_share_13 (by decide) (fun c_13 => ?_) (fun c_13 => ?_)
      · have hM := itT hM c_13
        refine lv_lload_n hx hb d_Or_share_26 rfl (lv_at hl 1 rfl) ?_
        refine lv_lconst (v := 0) hx hb d_Or_share_27 (by decide) ?_
        refine W.lcmp hx hb d_Or_share_28 ?_
        refine lv_if_ne (tgt := 42) hx hb d_Or_share_29 (by decide) (fun c_29 => ?_) (fun c_29 => ?_)
        · have hM := itF hM c_29
          exfalso
          obtain ⟨r_50, hc_50, hM⟩ := bd1T hM
          obtain ⟨r_53, hc_53, hM⟩ := bd1T hM
          obtain ⟨r_62, hc_62, hM⟩ := bd1T hM
          by_cases c_71 : p2 = 0
          · have hM := itT hM c_71
            obtain ⟨hz_82, hM⟩ := nzTJ hM
            exact absurd hM (by simp)
          · have hM := itF hM c_71
            obtain ⟨hz_82, hM⟩ := nzTJ hM
            exact absurd hM (by simp)
        · have hM := itT hM c_29
          have ee0 := inlT hM
          subst ee0
          obtain ⟨sa, hstr⟩ := hTE.2.2.2 (R_Or, 145, "a share of a price of 0") sl_5
          exact ex_throw (cls := "java/lang/ArithmeticException") (names := ["java/lang/RuntimeException", "java/lang/Exception"]) hx hb hl0 hown (by decide +kernel) (by decide +kernel) (hts _ iw_52e38491) (hts _ iw_078e133a) hstr (ow_all hts hTE oa_2) (by rw [hml]; exact hl.1) hlocks htab d_Or_share_32 d_Or_share_35 d_Or_share_36 d_Or_share_38 d_Or_share_41 (Nat.le_of_ble_eq_true rfl) (Nat.le_of_ble_eq_true rfl) (Nat.le_of_ble_eq_true rfl) (Nat.le_of_ble_eq_true rfl) (Nat.le_of_ble_eq_true rfl) (Nat.le_of_ble_eq_true rfl)
      · have hM := itF hM c_13
        have ee0 := inlT hM
        subst ee0
        obtain ⟨sa, hstr⟩ := hTE.2.2.2 (R_Or, 141, "no such price or side") sl_4
        exact ex_throw (cls := "java/lang/IllegalArgumentException") (names := ["java/lang/RuntimeException", "java/lang/Exception"]) hx hb hl0 hown (by decide +kernel) (by decide +kernel) (hts _ iw_c7afea35) (hts _ iw_d0f19f4e) hstr (ow_all hts hTE oa_0) (by rw [hml]; exact hl.1) hlocks htab d_Or_share_16 d_Or_share_19 d_Or_share_20 d_Or_share_22 d_Or_share_25 (Nat.le_of_ble_eq_true rfl) (Nat.le_of_ble_eq_true rfl) (Nat.le_of_ble_eq_true rfl) (Nat.le_of_ble_eq_true rfl) (Nat.le_of_ble_eq_true rfl) (Nat.le_of_ble_eq_true rfl)
def rmx_Or_proof : Room := { frames := 6, cells := 1, slots := 6, locals := 100 }
set_option maxHeartbeats 4000000 in
set_option maxRecDepth 100000 in
theorem x_Or_proof (l : Launch) (hl0 : l.stackTraces = false) (D : va_G) (cT : Nat → ClassId) (qO : Nat) (qOa : Nat) (qT : Nat) (qTs : Nat) (qR : Nat) (qRs : Nat) (qP : Nat) (qPc : Nat) (qPl : Nat) (qPv : Nat) (qL : Nat) (qLj : Nat) (qF : Nat) (qFk : Nat) (qFf : Nat) (qFl : Nat) (done : Int32) (brd : Int32) (tup : Int32) (tdn : Int32) (askd : Int32) (answ : Nat → Int32) (tlen : Int32) (tpl : Int32) (tsg : Nat → Int32) (rlen : Int32) (rsz : Int32) (rsg : Nat → Int32) (psz : Int32) (pcd : Nat → Int32) (pld : Nat → Int32) (pct : Nat → Int64) (lpr : Int32) (lful : Bool) (ljn : Nat → Int32) (fsz : Int32) (fkd : Nat → Int32) (ffr : Nat → Int32) (fto : Nat → Int32) (p1 : Int32) (p2 : Int32) (p3 : Int32) {ee : Nat} (hM : m_Or_proof p1 p2 p3 fsz fkd ffr fto = some (.inl ee)) : CtX l y_Or_proof (WS y_Or_proof b_Or_proof 4 (some .int)) rmx_Or_proof D cT [.ref qO, .int p1, .int p2, .int p3] [(qO, .inr (0, [.ref qT, .ref qR, .ref qP, .ref qL, .ref qF, .int done, .int brd, .int tup, .int tdn, .ref qOa, .int askd])), (qOa, .inl (cT 0, 149, .inl answ)), (qT, .inr (1, [.ref qTs, .int tlen, .int tpl])), (qTs, .inl (cT 2, 300, .inl tsg)), (qR, .inr (2, [.ref qRs, .int rlen, .int rsz])), (qRs, .inl (cT 2, 300, .inl rsg)), (qP, .inr (3, [.ref qPc, .ref qPl, .ref qPv, .int psz])), (qPc, .inl (cT 0, 12, .inl pcd)), (qPl, .inl (cT 0, 12, .inl pld)), (qPv, .inl (cT 1, 12, .inr (.inl pct))), (qL, .inr (4, [.ref qLj, .int lpr, .int (bI lful)])), (qLj, .inl (cT 0, 10, .inl ljn)), (qF, .inr (5, [.ref qFk, .ref qFf, .ref qFl, .int fsz])), (qFk, .inl (cT 0, 20, .inl fkd)), (qFf, .inl (cT 0, 20, .inl ffr)), (qFl, .inl (cT 0, 20, .inl fto))] (exn ee) 1 6 := by
  intro sz
  refine MetX.ofW (cc := b_Or_proof) (maxL := 4) (ret := (some .int)) (by decide) rfl ?_
  intro p e s m args below meth c s₁ B hml htab hv
  obtain ⟨rfl, hsz, hP, hE, hD0, hTE⟩ := hv
  have hx := B.exec
  have hb := B.bytes
  have hr := B.returns
  have hts : ∀ w ∈ TB, w.before _ s = true := fun w h => atoms_spec (ws := WS y_Or_proof b_Or_proof 4 (some .int)) B.pre w (List.mem_cons_of_mem _ h)
  have hown : s.vm.findClass R_Or = some m.cls := findClass_of_methodNamed B.named
  have hlocks := B.notSynchronized
  have hK := hE.1
  have hN := hE.2
  have hHs : s.heap.size ≤ s.heap.size := Nat.le_refl _
  have hl := lv_entry ([.ref qO, .int p1, .int p2, .int p3]) (n := 4) (Nat.le_of_ble_eq_true rfl)
  rw [lg_entry_eq]
  generalize (lg_sl ([.ref qO, .int p1, .int p2, .int p3]) ++ List.replicate (4 - (lg_sl ([.ref qO, .int p1, .int p2, .int p3])).length) Slot.unset).toArray = ls at hl ⊢
  have hl : lv_has ls 4 [(0, .ref qO), (1, .int p1), (2, .int p2), (3, .int p3)] := hl
  have S : CallFix p m c b_Or_proof 4 s _ TB R_Or := ⟨hx, hb, hml, hown, hts⟩
  unfold m_Or_proof at hM
  refine lv_iload_n hx hb d_Or_proof_0 rfl (lv_at hl 1 rfl) ?_
  refine lv_if_lt (tgt := 28) hx hb d_Or_proof_1 (by decide) (fun c_1 => ?_) (fun c_1 => ?_)
  · have hM := itT hM c_1
    have ee0 := inlT hM
    subst ee0
    obtain ⟨sa, hstr⟩ := hTE.2.2.2 (R_Or, 167, "no such kind or days") sl_6
    exact ex_throw (cls := "java/lang/IllegalArgumentException") (names := ["java/lang/RuntimeException", "java/lang/Exception"]) hx hb hl0 hown (by decide +kernel) (by decide +kernel) (hts _ iw_c7afea35) (hts _ iw_d0f19f4e) hstr (ow_all hts hTE oa_0) (by rw [hml]; exact hl.1) hlocks htab d_Or_proof_28 d_Or_proof_31 d_Or_proof_32 d_Or_proof_34 d_Or_proof_37 (Nat.le_of_ble_eq_true rfl) (Nat.le_of_ble_eq_true rfl) (Nat.le_of_ble_eq_true rfl) (Nat.le_of_ble_eq_true rfl) (Nat.le_of_ble_eq_true rfl) (Nat.le_of_ble_eq_true rfl)
  · have hM := itF hM c_1
    refine lv_iload_n hx hb d_Or_proof_4 rfl (lv_at hl 1 rfl) ?_
    refine lv_iconst (v := 1) hx hb d_Or_proof_5 (by decide) ?_
    refine lv_icmp_gt (tgt := 28) hx hb d_Or_proof_6 (by decide) (fun c_6 => ?_) (fun c_6 => ?_)
    · have hM := itT hM c_6
      have ee0 := inlT hM
      subst ee0
      obtain ⟨sa, hstr⟩ := hTE.2.2.2 (R_Or, 167, "no such kind or days") sl_6
      exact ex_throw (cls := "java/lang/IllegalArgumentException") (names := ["java/lang/RuntimeException", "java/lang/Exception"]) hx hb hl0 hown (by decide +kernel) (by decide +kernel) (hts _ iw_c7afea35) (hts _ iw_d0f19f4e) hstr (ow_all hts hTE oa_0) (by rw [hml]; exact hl.1) hlocks htab d_Or_proof_28 d_Or_proof_31 d_Or_proof_32 d_Or_proof_34 d_Or_proof_37 (Nat.le_of_ble_eq_true rfl) (Nat.le_of_ble_eq_true rfl) (Nat.le_of_ble_eq_true rfl) (Nat.le_of_ble_eq_true rfl) (Nat.le_of_ble_eq_true rfl) (Nat.le_of_ble_eq_true rfl)
    · have hM := itF hM c_6
      refine lv_iload_n hx hb d_Or_proof_9 rfl (lv_at hl 2 rfl) ?_
      obtain ⟨r_10, hc_10, hM⟩ := bd1T hM
      refine cp_S (As := [.int p2]) (rest := []) S hE (c_Or_isDay l D cT p2 hc_10) gw_11477108 rfl rfl ⟨Nat.le_of_ble_eq_true rfl, Nat.le_of_ble_eq_true rfl⟩ rfl hl.1 rfl (Nat.le_of_ble_eq_true rfl) d_Or_proof_10 ⟨Nat.zero_le _, Nat.zero_le _⟩ hP hHs (fun H hP hHs => ?_)
      refine lv_if_eq (tgt := 28) hx hb d_Or_proof_13 (by decide) (fun c_13 => ?_) (fun c_13 => ?_)
      · have hM := itT hM c_13
        have ee0 := inlT hM
        subst ee0
        obtain ⟨sa, hstr⟩ := hTE.2.2.2 (R_Or, 167, "no such kind or days") sl_6
        exact ex_throw (cls := "java/lang/IllegalArgumentException") (names := ["java/lang/RuntimeException", "java/lang/Exception"]) hx hb hl0 hown (by decide +kernel) (by decide +kernel) (hts _ iw_c7afea35) (hts _ iw_d0f19f4e) hstr (ow_all hts hTE oa_0) (by rw [hml]; exact hl.1) hlocks htab d_Or_proof_28 d_Or_proof_31 d_Or_proof_32 d_Or_proof_34 d_Or_proof_37 (Nat.le_of_ble_eq_true rfl) (Nat.le_of_ble_eq_true rfl) (Nat.le_of_ble_eq_true rfl) (Nat.le_of_ble_eq_true rfl) (Nat.le_of_ble_eq_true rfl) (Nat.le_of_ble_eq_true rfl)
      · have hM := itF hM c_13
        refine lv_iload_n hx hb d_Or_proof_16 rfl (lv_at hl 3 rfl) ?_
        obtain ⟨r_17, hc_17, hM⟩ := bd1T hM
        refine cp_S (As := [.int p3]) (rest := []) S hE (c_Or_isDay l D cT p3 hc_17) gw_11477108 rfl rfl ⟨Nat.le_of_ble_eq_true rfl, Nat.le_of_ble_eq_true rfl⟩ rfl hl.1 rfl (Nat.le_of_ble_eq_true rfl) d_Or_proof_17 ⟨Nat.zero_le _, Nat.zero_le _⟩ hP hHs (fun H hP hHs => ?_)
        refine lv_if_eq (tgt := 28) hx hb d_Or_proof_20 (by decide) (fun c_20 => ?_) (fun c_20 => ?_)
        · have hM := itT hM c_20
          have ee0 := inlT hM
          subst ee0
          obtain ⟨sa, hstr⟩ := hTE.2.2.2 (R_Or, 167, "no such kind or days") sl_6
          exact ex_throw (cls := "java/lang/IllegalArgumentException") (names := ["java/lang/RuntimeException", "java/lang/Exception"]) hx hb hl0 hown (by decide +kernel) (by decide +kernel) (hts _ iw_c7afea35) (hts _ iw_d0f19f4e) hstr (ow_all hts hTE oa_0) (by rw [hml]; exact hl.1) hlocks htab d_Or_proof_28 d_Or_proof_31 d_Or_proof_32 d_Or_proof_34 d_Or_proof_37 (Nat.le_of_ble_eq_true rfl) (Nat.le_of_ble_eq_true rfl) (Nat.le_of_ble_eq_true rfl) (Nat.le_of_ble_eq_true rfl) (Nat.le_of_ble_eq_true rfl) (Nat.le_of_ble_eq_true rfl)
        · have hM := itF hM c_20
          refine lv_iload_n hx hb d_Or_proof_23 rfl (lv_at hl 2 rfl) ?_
          refine lv_iload_n hx hb d_Or_proof_24 rfl (lv_at hl 3 rfl) ?_
          refine lv_icmp_le (tgt := 38) hx hb d_Or_proof_25 (by decide) (fun c_25 => ?_) (fun c_25 => ?_)
          · have hM := itT hM c_25
            refine lv_aload_n hx hb d_Or_proof_38 rfl (lv_at hl 0 rfl) ?_
            refine va_get (D := D) (ci := 0) (v := .ref qF) (C := R_Or) (T := F_Or) (N := 11) hx hb hts i_Or hown hK hP 0 rfl rfl 4 (by decide) (hts _ iw_653e2ba4) (fun _ h9 => h9) rfl d_Or_proof_39 ?_
            refine va_getN (D := D) (ci := 5) (v := .int fsz) (C := R_Proofs) (T := F_Proofs) (N := 4) hx hb hts i_Proofs hown hK hP 12 rfl rfl 3 (by decide) (va_Nw.use rfl (hN _ nl_564914ee)) (fun _ h9 => h9) rfl d_Or_proof_42 ?_
            refine lv_bipush (v := 20) hx hb d_Or_proof_45 (by decide) ?_
            refine lv_icmp_lt (tgt := 60) hx hb d_Or_proof_47 (by decide) (fun c_47 => ?_) (fun c_47 => ?_)
            · have hM := itT hM c_47
              exfalso
              obtain ⟨r_67, fsz_67, fkd_67, ffr_67, fto_67, hc_67, hM⟩ := bd5T hM
              exact absurd hM (by simp)
            · have hM := itF hM c_47
              have ee0 := inlT hM
              subst ee0
              obtain ⟨sa, hstr⟩ := hTE.2.2.2 (R_Or, 170, "there are 20 proofs") sl_7
              exact ex_throw (cls := "java/lang/IllegalStateException") (names := ["java/lang/RuntimeException", "java/lang/Exception"]) hx hb hl0 hown (by decide +kernel) (by decide +kernel) (hts _ iw_cfd4a4e2) (hts _ iw_89165b4d) hstr (ow_all hts hTE oa_1) (by rw [hml]; exact hl.1) hlocks htab d_Or_proof_50 d_Or_proof_53 d_Or_proof_54 d_Or_proof_56 d_Or_proof_59 (Nat.le_of_ble_eq_true rfl) (Nat.le_of_ble_eq_true rfl) (Nat.le_of_ble_eq_true rfl) (Nat.le_of_ble_eq_true rfl) (Nat.le_of_ble_eq_true rfl) (Nat.le_of_ble_eq_true rfl)
          · have hM := itF hM c_25
            have ee0 := inlT hM
            subst ee0
            obtain ⟨sa, hstr⟩ := hTE.2.2.2 (R_Or, 167, "no such kind or days") sl_6
            exact ex_throw (cls := "java/lang/IllegalArgumentException") (names := ["java/lang/RuntimeException", "java/lang/Exception"]) hx hb hl0 hown (by decide +kernel) (by decide +kernel) (hts _ iw_c7afea35) (hts _ iw_d0f19f4e) hstr (ow_all hts hTE oa_0) (by rw [hml]; exact hl.1) hlocks htab d_Or_proof_28 d_Or_proof_31 d_Or_proof_32 d_Or_proof_34 d_Or_proof_37 (Nat.le_of_ble_eq_true rfl) (Nat.le_of_ble_eq_true rfl) (Nat.le_of_ble_eq_true rfl) (Nat.le_of_ble_eq_true rfl) (Nat.le_of_ble_eq_true rfl) (Nat.le_of_ble_eq_true rfl)
def rmx_Or_good : Room := { frames := 6, cells := 1, slots := 6, locals := 100 }
set_option maxHeartbeats 4000000 in
set_option maxRecDepth 100000 in
theorem x_Or_good (l : Launch) (hl0 : l.stackTraces = false) (D : va_G) (cT : Nat → ClassId) (qO : Nat) (qOa : Nat) (qT : Nat) (qTs : Nat) (qR : Nat) (qRs : Nat) (qP : Nat) (qPc : Nat) (qPl : Nat) (qPv : Nat) (qL : Nat) (qLj : Nat) (qF : Nat) (qFk : Nat) (qFf : Nat) (qFl : Nat) (done : Int32) (brd : Int32) (tup : Int32) (tdn : Int32) (askd : Int32) (answ : Nat → Int32) (tlen : Int32) (tpl : Int32) (tsg : Nat → Int32) (rlen : Int32) (rsz : Int32) (rsg : Nat → Int32) (psz : Int32) (pcd : Nat → Int32) (pld : Nat → Int32) (pct : Nat → Int64) (lpr : Int32) (lful : Bool) (ljn : Nat → Int32) (fsz : Int32) (fkd : Nat → Int32) (ffr : Nat → Int32) (fto : Nat → Int32) (p1 : Int32) (p2 : Int64) (p3 : Int32) {ee : Nat} (hM : m_Or_good p1 p2 p3 fsz fkd ffr fto = some (.inl ee)) : CtX l y_Or_good (WS y_Or_good b_Or_good 5 (some .boolean)) rmx_Or_good D cT [.ref qO, .int p1, .long p2, .int p3] [(qO, .inr (0, [.ref qT, .ref qR, .ref qP, .ref qL, .ref qF, .int done, .int brd, .int tup, .int tdn, .ref qOa, .int askd])), (qOa, .inl (cT 0, 149, .inl answ)), (qT, .inr (1, [.ref qTs, .int tlen, .int tpl])), (qTs, .inl (cT 2, 300, .inl tsg)), (qR, .inr (2, [.ref qRs, .int rlen, .int rsz])), (qRs, .inl (cT 2, 300, .inl rsg)), (qP, .inr (3, [.ref qPc, .ref qPl, .ref qPv, .int psz])), (qPc, .inl (cT 0, 12, .inl pcd)), (qPl, .inl (cT 0, 12, .inl pld)), (qPv, .inl (cT 1, 12, .inr (.inl pct))), (qL, .inr (4, [.ref qLj, .int lpr, .int (bI lful)])), (qLj, .inl (cT 0, 10, .inl ljn)), (qF, .inr (5, [.ref qFk, .ref qFf, .ref qFl, .int fsz])), (qFk, .inl (cT 0, 20, .inl fkd)), (qFf, .inl (cT 0, 20, .inl ffr)), (qFl, .inl (cT 0, 20, .inl fto))] (exn ee) 1 6 := by
  intro sz
  refine MetX.ofW (cc := b_Or_good) (maxL := 5) (ret := (some .boolean)) (by decide) rfl ?_
  intro p e s m args below meth c s₁ B hml htab hv
  obtain ⟨rfl, hsz, hP, hE, hD0, hTE⟩ := hv
  have hx := B.exec
  have hb := B.bytes
  have hr := B.returns
  have hts : ∀ w ∈ TB, w.before _ s = true := fun w h => atoms_spec (ws := WS y_Or_good b_Or_good 5 (some .boolean)) B.pre w (List.mem_cons_of_mem _ h)
  have hown : s.vm.findClass R_Or = some m.cls := findClass_of_methodNamed B.named
  have hlocks := B.notSynchronized
  have hK := hE.1
  have hN := hE.2
  have hHs : s.heap.size ≤ s.heap.size := Nat.le_refl _
  have hl := lv_entry ([.ref qO, .int p1, .long p2, .int p3]) (n := 5) (Nat.le_of_ble_eq_true rfl)
  rw [lg_entry_eq]
  generalize (lg_sl ([.ref qO, .int p1, .long p2, .int p3]) ++ List.replicate (5 - (lg_sl ([.ref qO, .int p1, .long p2, .int p3])).length) Slot.unset).toArray = ls at hl ⊢
  have hl : lv_has ls 5 [(0, .ref qO), (1, .int p1), (2, .long p2), (4, .int p3)] := hl
  have S : CallFix p m c b_Or_good 5 s _ TB R_Or := ⟨hx, hb, hml, hown, hts⟩
  unfold m_Or_good at hM
  refine lv_iload_n hx hb d_Or_good_0 rfl (lv_at hl 1 rfl) ?_
  refine lv_if_lt (tgt := 30) hx hb d_Or_good_1 (by decide) (fun c_1 => ?_) (fun c_1 => ?_)
  · have hM := itT hM c_1
    have ee0 := inlT hM
    subst ee0
    obtain ⟨sa, hstr⟩ := hTE.2.2.2 (R_Or, 175, "no such proof, value or day") sl_8
    exact ex_throw (cls := "java/lang/IllegalArgumentException") (names := ["java/lang/RuntimeException", "java/lang/Exception"]) hx hb hl0 hown (by decide +kernel) (by decide +kernel) (hts _ iw_c7afea35) (hts _ iw_d0f19f4e) hstr (ow_all hts hTE oa_0) (by rw [hml]; exact hl.1) hlocks htab d_Or_good_30 d_Or_good_33 d_Or_good_34 d_Or_good_36 d_Or_good_39 (Nat.le_of_ble_eq_true rfl) (Nat.le_of_ble_eq_true rfl) (Nat.le_of_ble_eq_true rfl) (Nat.le_of_ble_eq_true rfl) (Nat.le_of_ble_eq_true rfl) (Nat.le_of_ble_eq_true rfl)
  · have hM := itF hM c_1
    refine lv_iload_n hx hb d_Or_good_4 rfl (lv_at hl 1 rfl) ?_
    refine lv_aload_n hx hb d_Or_good_5 rfl (lv_at hl 0 rfl) ?_
    refine va_get (D := D) (ci := 0) (v := .ref qF) (C := R_Or) (T := F_Or) (N := 11) hx hb hts i_Or hown hK hP 0 rfl rfl 4 (by decide) (hts _ iw_653e2ba4) (fun _ h9 => h9) rfl d_Or_good_6 ?_
    refine va_getN (D := D) (ci := 5) (v := .int fsz) (C := R_Proofs) (T := F_Proofs) (N := 4) hx hb hts i_Proofs hown hK hP 12 rfl rfl 3 (by decide) (va_Nw.use rfl (hN _ nl_564914ee)) (fun _ h9 => h9) rfl d_Or_good_9 ?_
    refine lv_icmp_ge (tgt := 30) hx hb d_Or_good_12 (by decide) (fun c_12 => ?_) (fun c_12 => ?_)
    · have hM := itT hM c_12
      have ee0 := inlT hM
      subst ee0
      obtain ⟨sa, hstr⟩ := hTE.2.2.2 (R_Or, 175, "no such proof, value or day") sl_8
      exact ex_throw (cls := "java/lang/IllegalArgumentException") (names := ["java/lang/RuntimeException", "java/lang/Exception"]) hx hb hl0 hown (by decide +kernel) (by decide +kernel) (hts _ iw_c7afea35) (hts _ iw_d0f19f4e) hstr (ow_all hts hTE oa_0) (by rw [hml]; exact hl.1) hlocks htab d_Or_good_30 d_Or_good_33 d_Or_good_34 d_Or_good_36 d_Or_good_39 (Nat.le_of_ble_eq_true rfl) (Nat.le_of_ble_eq_true rfl) (Nat.le_of_ble_eq_true rfl) (Nat.le_of_ble_eq_true rfl) (Nat.le_of_ble_eq_true rfl) (Nat.le_of_ble_eq_true rfl)
    · have hM := itF hM c_12
      refine lv_lload_n hx hb d_Or_good_15 rfl (lv_at hl 2 rfl) ?_
      obtain ⟨r_16, hc_16, hM⟩ := bd1T hM
      refine cp_S (As := [.long p2]) (rest := []) S hE (c_Or_isCents l D cT p2 hc_16) gw_25f3dde8 rfl rfl ⟨Nat.le_of_ble_eq_true rfl, Nat.le_of_ble_eq_true rfl⟩ rfl hl.1 rfl (Nat.le_of_ble_eq_true rfl) d_Or_good_16 ⟨Nat.zero_le _, Nat.zero_le _⟩ hP hHs (fun H hP hHs => ?_)
      refine lv_if_eq (tgt := 30) hx hb d_Or_good_19 (by decide) (fun c_19 => ?_) (fun c_19 => ?_)
      · have hM := itT hM c_19
        have ee0 := inlT hM
        subst ee0
        obtain ⟨sa, hstr⟩ := hTE.2.2.2 (R_Or, 175, "no such proof, value or day") sl_8
        exact ex_throw (cls := "java/lang/IllegalArgumentException") (names := ["java/lang/RuntimeException", "java/lang/Exception"]) hx hb hl0 hown (by decide +kernel) (by decide +kernel) (hts _ iw_c7afea35) (hts _ iw_d0f19f4e) hstr (ow_all hts hTE oa_0) (by rw [hml]; exact hl.1) hlocks htab d_Or_good_30 d_Or_good_33 d_Or_good_34 d_Or_good_36 d_Or_good_39 (Nat.le_of_ble_eq_true rfl) (Nat.le_of_ble_eq_true rfl) (Nat.le_of_ble_eq_true rfl) (Nat.le_of_ble_eq_true rfl) (Nat.le_of_ble_eq_true rfl) (Nat.le_of_ble_eq_true rfl)
      · have hM := itF hM c_19
        refine lv_iload hx hb d_Or_good_22 (lv_at hl 3 rfl) ?_
        obtain ⟨r_24, hc_24, hM⟩ := bd1T hM
        refine cp_S (As := [.int p3]) (rest := []) S hE (c_Or_isDay l D cT p3 hc_24) gw_11477108 rfl rfl ⟨Nat.le_of_ble_eq_true rfl, Nat.le_of_ble_eq_true rfl⟩ rfl hl.1 rfl (Nat.le_of_ble_eq_true rfl) d_Or_good_24 ⟨Nat.zero_le _, Nat.zero_le _⟩ hP hHs (fun H hP hHs => ?_)
        refine lv_if_ne (tgt := 40) hx hb d_Or_good_27 (by decide) (fun c_27 => ?_) (fun c_27 => ?_)
        · have hM := itF hM c_27
          exfalso
          obtain ⟨r_48, hc_48, hM⟩ := bd1T hM
          exact absurd hM (by simp)
        · have hM := itT hM c_27
          have ee0 := inlT hM
          subst ee0
          obtain ⟨sa, hstr⟩ := hTE.2.2.2 (R_Or, 175, "no such proof, value or day") sl_8
          exact ex_throw (cls := "java/lang/IllegalArgumentException") (names := ["java/lang/RuntimeException", "java/lang/Exception"]) hx hb hl0 hown (by decide +kernel) (by decide +kernel) (hts _ iw_c7afea35) (hts _ iw_d0f19f4e) hstr (ow_all hts hTE oa_0) (by rw [hml]; exact hl.1) hlocks htab d_Or_good_30 d_Or_good_33 d_Or_good_34 d_Or_good_36 d_Or_good_39 (Nat.le_of_ble_eq_true rfl) (Nat.le_of_ble_eq_true rfl) (Nat.le_of_ble_eq_true rfl) (Nat.le_of_ble_eq_true rfl) (Nat.le_of_ble_eq_true rfl) (Nat.le_of_ble_eq_true rfl)
def rmx_Or_own : Room := { frames := 6, cells := 1, slots := 6, locals := 100 }
set_option maxHeartbeats 4000000 in
set_option maxRecDepth 100000 in
theorem x_Or_own (l : Launch) (hl0 : l.stackTraces = false) (D : va_G) (cT : Nat → ClassId) (qO : Nat) (qOa : Nat) (qT : Nat) (qTs : Nat) (qR : Nat) (qRs : Nat) (qP : Nat) (qPc : Nat) (qPl : Nat) (qPv : Nat) (qL : Nat) (qLj : Nat) (qF : Nat) (qFk : Nat) (qFf : Nat) (qFl : Nat) (done : Int32) (brd : Int32) (tup : Int32) (tdn : Int32) (askd : Int32) (answ : Nat → Int32) (tlen : Int32) (tpl : Int32) (tsg : Nat → Int32) (rlen : Int32) (rsz : Int32) (rsg : Nat → Int32) (psz : Int32) (pcd : Nat → Int32) (pld : Nat → Int32) (pct : Nat → Int64) (lpr : Int32) (lful : Bool) (ljn : Nat → Int32) (fsz : Int32) (fkd : Nat → Int32) (ffr : Nat → Int32) (fto : Nat → Int32) (p1 : Int32) {ee : Nat} (hM : m_Or_own p1 lful ljn = some (.inl ee)) : CtX l y_Or_own (WS y_Or_own b_Or_own 2 (some .boolean)) rmx_Or_own D cT [.ref qO, .int p1] [(qO, .inr (0, [.ref qT, .ref qR, .ref qP, .ref qL, .ref qF, .int done, .int brd, .int tup, .int tdn, .ref qOa, .int askd])), (qOa, .inl (cT 0, 149, .inl answ)), (qT, .inr (1, [.ref qTs, .int tlen, .int tpl])), (qTs, .inl (cT 2, 300, .inl tsg)), (qR, .inr (2, [.ref qRs, .int rlen, .int rsz])), (qRs, .inl (cT 2, 300, .inl rsg)), (qP, .inr (3, [.ref qPc, .ref qPl, .ref qPv, .int psz])), (qPc, .inl (cT 0, 12, .inl pcd)), (qPl, .inl (cT 0, 12, .inl pld)), (qPv, .inl (cT 1, 12, .inr (.inl pct))), (qL, .inr (4, [.ref qLj, .int lpr, .int (bI lful)])), (qLj, .inl (cT 0, 10, .inl ljn)), (qF, .inr (5, [.ref qFk, .ref qFf, .ref qFl, .int fsz])), (qFk, .inl (cT 0, 20, .inl fkd)), (qFf, .inl (cT 0, 20, .inl ffr)), (qFl, .inl (cT 0, 20, .inl fto))] (exn ee) 1 6 := by
  intro sz
  refine MetX.ofW (cc := b_Or_own) (maxL := 2) (ret := (some .boolean)) (by decide) rfl ?_
  intro p e s m args below meth c s₁ B hml htab hv
  obtain ⟨rfl, hsz, hP, hE, hD0, hTE⟩ := hv
  have hx := B.exec
  have hb := B.bytes
  have hr := B.returns
  have hts : ∀ w ∈ TB, w.before _ s = true := fun w h => atoms_spec (ws := WS y_Or_own b_Or_own 2 (some .boolean)) B.pre w (List.mem_cons_of_mem _ h)
  have hown : s.vm.findClass R_Or = some m.cls := findClass_of_methodNamed B.named
  have hlocks := B.notSynchronized
  have hK := hE.1
  have hN := hE.2
  have hHs : s.heap.size ≤ s.heap.size := Nat.le_refl _
  have hl := lv_entry ([.ref qO, .int p1]) (n := 2) (Nat.le_of_ble_eq_true rfl)
  rw [lg_entry_eq]
  generalize (lg_sl ([.ref qO, .int p1]) ++ List.replicate (2 - (lg_sl ([.ref qO, .int p1])).length) Slot.unset).toArray = ls at hl ⊢
  have hl : lv_has ls 2 [(0, .ref qO), (1, .int p1)] := hl
  have S : CallFix p m c b_Or_own 2 s _ TB R_Or := ⟨hx, hb, hml, hown, hts⟩
  unfold m_Or_own at hM
  refine lv_iload_n hx hb d_Or_own_0 rfl (lv_at hl 1 rfl) ?_
  obtain ⟨r_1, hc_1, hM⟩ := bd1T hM
  refine cp_S (As := [.int p1]) (rest := []) S hE (c_Or_isLand l D cT p1 hc_1) gw_1f2c9aaf rfl rfl ⟨Nat.le_of_ble_eq_true rfl, Nat.le_of_ble_eq_true rfl⟩ rfl hl.1 rfl (Nat.le_of_ble_eq_true rfl) d_Or_own_1 ⟨Nat.zero_le _, Nat.zero_le _⟩ hP hHs (fun H hP hHs => ?_)
  refine lv_if_ne (tgt := 17) hx hb d_Or_own_4 (by decide) (fun c_4 => ?_) (fun c_4 => ?_)
  · have hM := itF hM c_4
    exfalso
    obtain ⟨r_21, hc_21, hM⟩ := bd1T hM
    obtain ⟨r_25, hc_25, hM⟩ := bd1T hM
    exact absurd hM (by simp)
  · have hM := itT hM c_4
    have ee0 := inlT hM
    subst ee0
    obtain ⟨sa, hstr⟩ := hTE.2.2.2 (R_Or, 181, "no such land") sl_9
    exact ex_throw (cls := "java/lang/IllegalArgumentException") (names := ["java/lang/RuntimeException", "java/lang/Exception"]) hx hb hl0 hown (by decide +kernel) (by decide +kernel) (hts _ iw_c7afea35) (hts _ iw_d0f19f4e) hstr (ow_all hts hTE oa_0) (by rw [hml]; exact hl.1) hlocks htab d_Or_own_7 d_Or_own_10 d_Or_own_11 d_Or_own_13 d_Or_own_16 (Nat.le_of_ble_eq_true rfl) (Nat.le_of_ble_eq_true rfl) (Nat.le_of_ble_eq_true rfl) (Nat.le_of_ble_eq_true rfl) (Nat.le_of_ble_eq_true rfl) (Nat.le_of_ble_eq_true rfl)
