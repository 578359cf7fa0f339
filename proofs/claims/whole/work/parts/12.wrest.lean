def rm_Rows_replace : Room := { frames := 1, cells := 0, slots := 0, locals := 60 }
set_option maxHeartbeats 4000000 in
set_option maxRecDepth 100000 in
theorem c_Rows_replace (l : Launch) (D : va_G) (cT : Nat → ClassId) (qR : Nat) (qRs : Nat) (qTs : Nat) (rlen : Int32) (rsz : Int32) (rsg : Nat → Int32) (tsg : Nat → Int32) (p2 : Int32) (p3 : Int32) {o_rlen : Int32} {o_rsz : Int32} {o_rsg : Nat → Int32} (hM : m_Rows_replace p2 p3 tsg rlen rsz rsg = some (o_rlen, o_rsz, o_rsg)) : Ct l y_Rows_replace (WS y_Rows_replace b_Rows_replace 4 none) rm_Rows_replace D cT [.ref qR, .ref qTs, .int p2, .int p3] [(qR, .inr (2, [.ref qRs, .int rlen, .int rsz])), (qRs, .inl (cT 2, 300, .inl rsg)), (qTs, .inl (cT 2, 300, .inl tsg))] none [(qR, .inr (2, [.ref qRs, .int o_rlen, .int o_rsz])), (qRs, .inl (cT 2, 300, .inl o_rsg)), (qTs, .inl (cT 2, 300, .inl tsg))] 0 0 := by
  intro sz
  refine Met.ofW (cc := b_Rows_replace) (maxL := 4) (ret := none) (by decide) rfl ?_
  intro p e s m args below meth c s₁ B hml hv
  obtain ⟨rfl, hsz, hP, hE, hD0⟩ := hv
  have hx := B.exec
  have hb := B.bytes
  have hr := B.returns
  have hts : ∀ w ∈ TB, w.before _ s = true := fun w h => atoms_spec (ws := WS y_Rows_replace b_Rows_replace 4 none) B.pre w (List.mem_cons_of_mem _ h)
  have hown : s.vm.findClass R_Rows = some m.cls := findClass_of_methodNamed B.named
  have hlocks := B.notSynchronized
  have hK := hE.1
  have hN := hE.2
  subst hsz
  have hD := hD0.self (sz := s.heap.size)
  generalize hAe : va_A [(qR, .inr (2, [.ref qRs, .int rlen, .int rsz])), (qRs, .inl (cT 2, 300, .inl rsg)), (qTs, .inl (cT 2, 300, .inl tsg))] s.heap.size = A at hD ⊢
  have hA : ∀ q : Nat, s.heap.size ≤ q → A q := fun q h => by rw [← hAe]; exact Or.inr h
  have hS : va_S A s.heap s.heap [] := va_S.rf
  have hl := lv_entry ([.ref qR, .ref qTs, .int p2, .int p3]) (n := 4) (Nat.le_of_ble_eq_true rfl)
  rw [lg_entry_eq]
  generalize (lg_sl ([.ref qR, .ref qTs, .int p2, .int p3]) ++ List.replicate (4 - (lg_sl ([.ref qR, .ref qTs, .int p2, .int p3])).length) Slot.unset).toArray = ls at hl ⊢
  have hl : lv_has ls 4 [(0, .ref qR), (1, .ref qTs), (2, .int p2), (3, .int p3)] := hl
  have S : CallFix p m c b_Rows_replace 4 s _ TB R_Rows := ⟨hx, hb, hml, hown, hts⟩
  unfold m_Rows_replace at hM
  refine lv_aload_n hx hb d_Rows_replace_0 rfl (lv_at hl 1 rfl) ?_
  refine lv_iconst (v := 0) hx hb d_Rows_replace_1 (by decide) ?_
  refine lv_aload_n hx hb d_Rows_replace_2 rfl (lv_at hl 0 rfl) ?_
  refine va_get (D := D) (ci := 2) (v := .ref qRs) (C := R_Rows) (T := F_Rows) (N := 3) hx hb hts i_Rows hown hK hP 0 rfl rfl 0 (by decide) (hts _ iw_aa0f13bd) (fun _ h9 => h9) rfl d_Rows_replace_3 ?_
  refine lv_iconst (v := 0) hx hb d_Rows_replace_6 (by decide) ?_
  refine lv_iload_n hx hb d_Rows_replace_7 rfl (lv_at hl 2 rfl) ?_
  obtain ⟨ha1, ha2, ha3, ha4, ha5, ha6, hM⟩ := acT hM
  refine va_copyi (ty := .char) (rest := []) hx hb (by rw [hml]; exact hl.1.symm) hown (hts _ iw_54d89c8f) (hts _ iw_b8e2a615) (hts _ iw_0f5f9aba) (hts _ iw_4e16621c) hK hP hD hS 2 1 2 2 rfl rfl rfl rfl rfl ha1 ha2 ha3 ha4 ha5 ha6 (Nat.le_of_ble_eq_true rfl) (Nat.le_of_ble_eq_true rfl) d_Rows_replace_8 (fun H locs hP hD hS => ?_)
  have hP : va_P D classes [(qR, .inr (2, [.ref qRs, .int rlen, .int rsz])), (qRs, .inl (cT 2, 300, .inl (va_cpy tsg rsg (0 : Int32).toNatClampNeg (0 : Int32).toNatClampNeg p2.toNatClampNeg))), (qTs, .inl (cT 2, 300, .inl tsg))] H := hP
  have hD : va_D A [(qR, .inr (2, [.ref qRs, .int rlen, .int rsz])), (qRs, .inl (cT 2, 300, .inl (va_cpy tsg rsg (0 : Int32).toNatClampNeg (0 : Int32).toNatClampNeg p2.toNatClampNeg))), (qTs, .inl (cT 2, 300, .inl tsg))] := hD
  refine lv_aload_n hx hb d_Rows_replace_11 rfl (lv_at hl 0 rfl) ?_
  refine lv_iload_n hx hb d_Rows_replace_12 rfl (lv_at hl 2 rfl) ?_
  refine va_put (D := D) (ci := 2) (v := .int p2) (ty := .int) (C := R_Rows) (T := F_Rows) (N := 3) hx hb hts i_Rows t_Rows t_Rows_ok n_Rows hown hK hP hD hS 0 rfl rfl 1 (by decide) (hts _ iw_fbab842c) (fun _ h9 => h9) rfl (by decide +kernel) rfl rfl (Nat.le_of_ble_eq_true rfl) d_Rows_replace_13 (fun H locs hP hD hS => ?_)
  have hP : va_P D classes [(qR, .inr (2, [.ref qRs, .int p2, .int rsz])), (qRs, .inl (cT 2, 300, .inl (va_cpy tsg rsg (0 : Int32).toNatClampNeg (0 : Int32).toNatClampNeg p2.toNatClampNeg))), (qTs, .inl (cT 2, 300, .inl tsg))] H := hP
  have hD : va_D A [(qR, .inr (2, [.ref qRs, .int p2, .int rsz])), (qRs, .inl (cT 2, 300, .inl (va_cpy tsg rsg (0 : Int32).toNatClampNeg (0 : Int32).toNatClampNeg p2.toNatClampNeg))), (qTs, .inl (cT 2, 300, .inl tsg))] := hD
  refine lv_aload_n hx hb d_Rows_replace_16 rfl (lv_at hl 0 rfl) ?_
  refine lv_iload_n hx hb d_Rows_replace_17 rfl (lv_at hl 3 rfl) ?_
  refine va_put (D := D) (ci := 2) (v := .int p3) (ty := .int) (C := R_Rows) (T := F_Rows) (N := 3) hx hb hts i_Rows t_Rows t_Rows_ok n_Rows hown hK hP hD hS 0 rfl rfl 2 (by decide) (hts _ iw_6e8f895f) (fun _ h9 => h9) rfl (by decide +kernel) rfl rfl (Nat.le_of_ble_eq_true rfl) d_Rows_replace_18 (fun H locs hP hD hS => ?_)
  have hP : va_P D classes [(qR, .inr (2, [.ref qRs, .int p2, .int p3])), (qRs, .inl (cT 2, 300, .inl (va_cpy tsg rsg (0 : Int32).toNatClampNeg (0 : Int32).toNatClampNeg p2.toNatClampNeg))), (qTs, .inl (cT 2, 300, .inl tsg))] H := hP
  have hD : va_D A [(qR, .inr (2, [.ref qRs, .int p2, .int p3])), (qRs, .inl (cT 2, 300, .inl (va_cpy tsg rsg (0 : Int32).toNatClampNeg (0 : Int32).toNatClampNeg p2.toNatClampNeg))), (qTs, .inl (cT 2, 300, .inl tsg))] := hD
  obtain ⟨eo0, eo1, eo2⟩ := so3T hM
  subst eo0
  subst eo1
  subst eo2
  exact rt_v S hr hlocks hP hD hS d_Rows_replace_21
def rm_Rows_numberAt : Room := { frames := 1, cells := 0, slots := 0, locals := 20 }
set_option maxHeartbeats 4000000 in
set_option maxRecDepth 100000 in
theorem w_Rows_numberAt_4 {p : Program} {l : Launch} {e : Env} {s : State} {m : MethodId} {args : Array Value} {below : List Frame} {meth : Method} {c : Code} {D : va_G} {cT : Nat → ClassId} {A : Nat → Prop} (S : CallFix p m c b_Rows_numberAt 4 s args TB R_Rows) (hr : meth.sig.returnType = (some .int)) (hlocks : meth.locks = false) (hE : EN D cT s) (hA : ∀ q, s.heap.size ≤ q → A q) {qR : Nat} {qRs : Nat} {rlen : Int32} {rsz : Int32} {rsg : Nat → Int32} {p1 : Int32} {rr : Int32} : ∀ (n : Nat) (x2 : Int32) (x3 : Int32), k_Rows_numberAt_4 rlen rsg p1  n x2 x3 = some rr → ∀ (H : Heap) (locs : List Loc) (ls : Array Slot), va_P D classes [(qR, .inr (2, [.ref qRs, .int rlen, .int rsz])), (qRs, .inl (cT 2, 300, .inl rsg))] H → va_D A [(qR, .inr (2, [.ref qRs, .int rlen, .int rsz])), (qRs, .inl (cT 2, 300, .inl rsg))] → va_S A s.heap H locs → lv_has ls 4 [(0, .ref qR), (2, .int x2), (3, .int x3)] → W p l e (headSpec (WS y_Rows_numberAt b_Rows_numberAt 4 (some .int)) rm_Rows_numberAt).room s m args below meth c H locs 0 0 (MQ below (qW D A [(qR, .inr (2, [.ref qRs, .int rlen, .int rsz])), (qRs, .inl (cT 2, 300, .inl rsg))] (some (.int rr))) args s 0 0 A) (F0 m 4 ls []) := by
  obtain ⟨hx, hb, hml, hown, hts⟩ := id S
  have hK := hE.1
  have hN := hE.2
  intro n
  induction n with
  | zero =>
    intro x2 x3 hM
    rw [k_Rows_numberAt_4_z] at hM
    cases hM
  | succ n ih =>
    intro x2 x3 hM H locs ls hP hD hS hl
    rw [k_Rows_numberAt_4_s] at hM
    refine lv_iload_n hx hb d_Rows_numberAt_4 rfl (lv_at hl 2 rfl) ?_
    refine lv_aload_n hx hb d_Rows_numberAt_5 rfl (lv_at hl 0 rfl) ?_
    refine va_get (D := D) (ci := 2) (v := .int rlen) (C := R_Rows) (T := F_Rows) (N := 3) hx hb hts i_Rows hown hK hP 0 rfl rfl 1 (by decide) (hts _ iw_fbab842c) (fun _ h9 => h9) rfl d_Rows_numberAt_6 ?_
    refine lv_icmp_ge (tgt := 45) hx hb d_Rows_numberAt_9 (by decide) (fun c_9 => ?_) (fun c_9 => ?_)
    · have hM := itT hM c_9
      refine lv_iload_n hx hb d_Rows_numberAt_45 rfl (lv_at hl 1 rfl) ?_
      have eo0 := Option.some.inj hM
      subst eo0
      exact rt_i S hr hlocks hP hD hS d_Rows_numberAt_46
    · have hM := itF hM c_9
      refine lv_aload_n hx hb d_Rows_numberAt_12 rfl (lv_at hl 0 rfl) ?_
      refine va_get (D := D) (ci := 2) (v := .ref qRs) (C := R_Rows) (T := F_Rows) (N := 3) hx hb hts i_Rows hown hK hP 0 rfl rfl 0 (by decide) (hts _ iw_aa0f13bd) (fun _ h9 => h9) rfl d_Rows_numberAt_13 ?_
      refine lv_iload_n hx hb d_Rows_numberAt_16 rfl (lv_at hl 2 rfl) ?_
      obtain ⟨hin_17, hM⟩ := ixT hM
      refine va_cald hx hb hK hP 1 2 rfl rfl hin_17 d_Rows_numberAt_17 ?_
      obtain ⟨r_18, hc_18, hM⟩ := bd1T hM
      refine ca_SN (As := [.int (rsg x3.toNatClampNeg)]) (rest := []) (wr := [(qR, .inr (2, [.ref qRs, .int rlen, .int rsz])), (qRs, .inl (cT 2, 300, .inl rsg))]) (w2 := [(qR, .inr (2, [.ref qRs, .int rlen, .int rsz])), (qRs, .inl (cT 2, 300, .inl rsg))]) S hE (c_Or_isDigit l D cT (rsg x3.toNatClampNeg) hc_18) gw_9e98a0ea rfl rfl ⟨Nat.le_of_ble_eq_true rfl, Nat.le_of_ble_eq_true rfl⟩ rfl hl.1 rfl (Nat.le_of_ble_eq_true rfl) d_Rows_numberAt_18 ⟨Nat.zero_le _, Nat.zero_le _⟩ hP hD hS hA [] [0, 1] [0, 1] rfl rfl (by decide) (by decide) rfl (by decide) (by decide) (fun H locs hP hD hS => ?_)
      refine lv_if_eq (tgt := 45) hx hb d_Rows_numberAt_21 (by decide) (fun c_21 => ?_) (fun c_21 => ?_)
      · have hM := itT hM c_21
        refine lv_iload_n hx hb d_Rows_numberAt_45 rfl (lv_at hl 1 rfl) ?_
        have eo0 := Option.some.inj hM
        subst eo0
        exact rt_i S hr hlocks hP hD hS d_Rows_numberAt_46
      · have hM := itF hM c_21
        refine lv_iload_n hx hb d_Rows_numberAt_24 rfl (lv_at hl 1 rfl) ?_
        refine lv_bipush (v := 10) hx hb d_Rows_numberAt_25 (by decide) ?_
        refine lv_imul hx hb d_Rows_numberAt_27 ?_
        refine lv_aload_n hx hb d_Rows_numberAt_28 rfl (lv_at hl 0 rfl) ?_
        refine va_get (D := D) (ci := 2) (v := .ref qRs) (C := R_Rows) (T := F_Rows) (N := 3) hx hb hts i_Rows hown hK hP 0 rfl rfl 0 (by decide) (hts _ iw_aa0f13bd) (fun _ h9 => h9) rfl d_Rows_numberAt_29 ?_
        refine lv_iload_n hx hb d_Rows_numberAt_32 rfl (lv_at hl 2 rfl) ?_
        obtain ⟨hin_33, hM⟩ := ixT hM
        refine va_cald hx hb hK hP 1 2 rfl rfl hin_33 d_Rows_numberAt_33 ?_
        refine lv_bipush (v := 48) hx hb d_Rows_numberAt_34 (by decide) ?_
        refine lv_isub hx hb d_Rows_numberAt_36 ?_
        refine lv_iadd hx hb d_Rows_numberAt_37 ?_
        refine lv_istore_n (lv' := [(2, .int ((x2 * 10) + ((rsg x3.toNatClampNeg) - 48))), (0, .ref qR), (3, .int x3)]) hx hb d_Rows_numberAt_38 rfl hl (by decide) rfl (fun ls hl => ?_)
        refine lv_iinc (v := x3 + 1) (lv' := [(3, .int (x3 + 1)), (2, .int ((x2 * 10) + ((rsg x3.toNatClampNeg) - 48))), (0, .ref qR)]) hx hb d_Rows_numberAt_39 hl (k := 2) rfl rfl (by decide) rfl (fun ls hl => ?_)
        refine lv_goto (tgt := 4) hx hb d_Rows_numberAt_42 (by decide) ?_
        exact ih ((x2 * 10) + ((rsg x3.toNatClampNeg) - 48)) (x3 + 1) hM _ _ _ hP hD hS (lv_sub hl [2, 1, 0] rfl)
set_option maxHeartbeats 4000000 in
set_option maxRecDepth 100000 in
theorem c_Rows_numberAt (l : Launch) (D : va_G) (cT : Nat → ClassId) (qR : Nat) (qRs : Nat) (rlen : Int32) (rsz : Int32) (rsg : Nat → Int32) (p1 : Int32) {rr : Int32} (hM : m_Rows_numberAt p1 rlen rsg = some rr) : Ct l y_Rows_numberAt (WS y_Rows_numberAt b_Rows_numberAt 4 (some .int)) rm_Rows_numberAt D cT [.ref qR, .int p1] [(qR, .inr (2, [.ref qRs, .int rlen, .int rsz])), (qRs, .inl (cT 2, 300, .inl rsg))] (some (.int rr)) [(qR, .inr (2, [.ref qRs, .int rlen, .int rsz])), (qRs, .inl (cT 2, 300, .inl rsg))] 0 0 := by
  intro sz
  refine Met.ofW (cc := b_Rows_numberAt) (maxL := 4) (ret := (some .int)) (by decide) rfl ?_
  intro p e s m args below meth c s₁ B hml hv
  obtain ⟨rfl, hsz, hP, hE, hD0⟩ := hv
  have hx := B.exec
  have hb := B.bytes
  have hr := B.returns
  have hts : ∀ w ∈ TB, w.before _ s = true := fun w h => atoms_spec (ws := WS y_Rows_numberAt b_Rows_numberAt 4 (some .int)) B.pre w (List.mem_cons_of_mem _ h)
  have hown : s.vm.findClass R_Rows = some m.cls := findClass_of_methodNamed B.named
  have hlocks := B.notSynchronized
  have hK := hE.1
  have hN := hE.2
  subst hsz
  have hD := hD0.self (sz := s.heap.size)
  generalize hAe : va_A [(qR, .inr (2, [.ref qRs, .int rlen, .int rsz])), (qRs, .inl (cT 2, 300, .inl rsg))] s.heap.size = A at hD ⊢
  have hA : ∀ q : Nat, s.heap.size ≤ q → A q := fun q h => by rw [← hAe]; exact Or.inr h
  have hS : va_S A s.heap s.heap [] := va_S.rf
  have hl := lv_entry ([.ref qR, .int p1]) (n := 4) (Nat.le_of_ble_eq_true rfl)
  rw [lg_entry_eq]
  generalize (lg_sl ([.ref qR, .int p1]) ++ List.replicate (4 - (lg_sl ([.ref qR, .int p1])).length) Slot.unset).toArray = ls at hl ⊢
  have hl : lv_has ls 4 [(0, .ref qR), (1, .int p1)] := hl
  have S : CallFix p m c b_Rows_numberAt 4 s _ TB R_Rows := ⟨hx, hb, hml, hown, hts⟩
  unfold m_Rows_numberAt at hM
  refine lv_iconst (v := 0) hx hb d_Rows_numberAt_0 (by decide) ?_
  refine lv_istore_n (lv' := [(2, .int 0), (0, .ref qR), (1, .int p1)]) hx hb d_Rows_numberAt_1 rfl hl (by decide) rfl (fun ls hl => ?_)
  refine lv_iload_n hx hb d_Rows_numberAt_2 rfl (lv_at hl 2 rfl) ?_
  refine lv_istore_n (lv' := [(3, .int p1), (2, .int 0), (0, .ref qR), (1, .int p1)]) hx hb d_Rows_numberAt_3 rfl hl (by decide) rfl (fun ls hl => ?_)
  exact w_Rows_numberAt_4 S hr hlocks hE hA 2000 0 p1 hM _ _ _ hP hD hS (lv_sub hl [2, 1, 0] rfl)
def rm_Rows_startFor : Room := { frames := 2, cells := 0, slots := 0, locals := 43 }
set_option maxHeartbeats 4000000 in
set_option maxRecDepth 100000 in
theorem w_Rows_startFor_10 {p : Program} {l : Launch} {e : Env} {s : State} {m : MethodId} {args : Array Value} {below : List Frame} {meth : Method} {c : Code} {D : va_G} {cT : Nat → ClassId} {A : Nat → Prop} (S : CallFix p m c b_Rows_startFor 7 s args TB R_Rows) (hr : meth.sig.returnType = (some .int)) (hlocks : meth.locks = false) (hE : EN D cT s) (hA : ∀ q, s.heap.size ≤ q → A q) {qR : Nat} {qRs : Nat} {rlen : Int32} {rsz : Int32} {rsg : Nat → Int32} {p1 : Int32} {rr : Int32} : ∀ (n : Nat) (x2 : Int32) (x3 : Int32) (x4 : Int32) (x5 : Int32), k_Rows_startFor_10 rlen rsg p1  n x2 x3 x4 x5 = some rr → ∀ (H : Heap) (locs : List Loc) (ls : Array Slot), va_P D classes [(qR, .inr (2, [.ref qRs, .int rlen, .int rsz])), (qRs, .inl (cT 2, 300, .inl rsg))] H → va_D A [(qR, .inr (2, [.ref qRs, .int rlen, .int rsz])), (qRs, .inl (cT 2, 300, .inl rsg))] → va_S A s.heap H locs → lv_has ls 7 [(0, .ref qR), (1, .int p1), (2, .int x2), (3, .int x3), (4, .int x4), (5, .int x5)] → W p l e (headSpec (WS y_Rows_startFor b_Rows_startFor 7 (some .int)) rm_Rows_startFor).room s m args below meth c H locs 0 0 (MQ below (qW D A [(qR, .inr (2, [.ref qRs, .int rlen, .int rsz])), (qRs, .inl (cT 2, 300, .inl rsg))] (some (.int rr))) args s 0 0 A) (F0 m 10 ls []) := by
  obtain ⟨hx, hb, hml, hown, hts⟩ := id S
  have hK := hE.1
  have hN := hE.2
  intro n
  induction n with
  | zero =>
    intro x2 x3 x4 x5 hM
    rw [k_Rows_startFor_10_z] at hM
    cases hM
  | succ n ih =>
    intro x2 x3 x4 x5 hM H locs ls hP hD hS hl
    rw [k_Rows_startFor_10_s] at hM
    refine lv_iload hx hb d_Rows_startFor_10 (lv_at hl 5 rfl) ?_
    refine lv_aload_n hx hb d_Rows_startFor_12 rfl (lv_at hl 0 rfl) ?_
    refine va_get (D := D) (ci := 2) (v := .int rlen) (C := R_Rows) (T := F_Rows) (N := 3) hx hb hts i_Rows hown hK hP 0 rfl rfl 1 (by decide) (hts _ iw_fbab842c) (fun _ h9 => h9) rfl d_Rows_startFor_13 ?_
    refine lv_icmp_ge (tgt := 92) hx hb d_Rows_startFor_16 (by decide) (fun c_16 => ?_) (fun c_16 => ?_)
    · have hM := itT hM c_16
      refine lv_iload_n hx hb d_Rows_startFor_92 rfl (lv_at hl 2 rfl) ?_
      have eo0 := Option.some.inj hM
      subst eo0
      exact rt_i S hr hlocks hP hD hS d_Rows_startFor_93
    · have hM := itF hM c_16
      refine lv_iload hx hb d_Rows_startFor_19 (lv_at hl 5 rfl) ?_
      refine lv_iload hx hb d_Rows_startFor_21 (lv_at hl 4 rfl) ?_
      refine lv_isub hx hb d_Rows_startFor_23 ?_
      refine lv_istore (lv' := [(6, .int (x5 - x4)), (0, .ref qR), (1, .int p1), (2, .int x2), (3, .int x3), (4, .int x4), (5, .int x5)]) hx hb d_Rows_startFor_24 hl (by decide) rfl (fun ls hl => ?_)
      refine lv_aload_n hx hb d_Rows_startFor_26 rfl (lv_at hl 1 rfl) ?_
      refine va_get (D := D) (ci := 2) (v := .ref qRs) (C := R_Rows) (T := F_Rows) (N := 3) hx hb hts i_Rows hown hK hP 0 rfl rfl 0 (by decide) (hts _ iw_aa0f13bd) (fun _ h9 => h9) rfl d_Rows_startFor_27 ?_
      refine lv_iload hx hb d_Rows_startFor_30 (lv_at hl 6 rfl) ?_
      obtain ⟨hin_32, hM⟩ := ixT hM
      refine va_cald hx hb hK hP 1 2 rfl rfl hin_32 d_Rows_startFor_32 ?_
      refine lv_bipush (v := 59) hx hb d_Rows_startFor_33 (by decide) ?_
      refine lv_icmp_ne (tgt := 47) hx hb d_Rows_startFor_35 (by decide) (fun c_35 => ?_) (fun c_35 => ?_)
      · have hM := itF hM c_35
        refine lv_aload_n hx hb d_Rows_startFor_47 rfl (lv_at hl 1 rfl) ?_
        refine va_get (D := D) (ci := 2) (v := .ref qRs) (C := R_Rows) (T := F_Rows) (N := 3) hx hb hts i_Rows hown hK hP 0 rfl rfl 0 (by decide) (hts _ iw_aa0f13bd) (fun _ h9 => h9) rfl d_Rows_startFor_48 ?_
        refine lv_iload hx hb d_Rows_startFor_51 (lv_at hl 6 rfl) ?_
        obtain ⟨hin_53, hM⟩ := ixT hM
        refine va_cald hx hb hK hP 1 2 rfl rfl hin_53 d_Rows_startFor_53 ?_
        refine lv_bipush (v := 58) hx hb d_Rows_startFor_54 (by decide) ?_
        refine lv_icmp_ne (tgt := 86) hx hb d_Rows_startFor_56 (by decide) (fun c_56 => ?_) (fun c_56 => ?_)
        · have hM := itF hM c_56
          refine lv_iinc (v := x5 + 1) (lv' := [(5, .int (x5 + 1)), (6, .int (x5 - x4)), (0, .ref qR), (1, .int p1), (2, .int x2), (3, .int x3), (4, .int x4)]) hx hb d_Rows_startFor_86 hl (k := 6) rfl rfl (by decide) rfl (fun ls hl => ?_)
          refine lv_goto (tgt := 10) hx hb d_Rows_startFor_89 (by decide) ?_
          exact ih x2 x3 x4 (x5 + 1) hM _ _ _ hP hD hS (lv_sub hl [2, 3, 4, 5, 6, 0] rfl)
        · have hM := itT hM c_56
          refine lv_iload hx hb d_Rows_startFor_59 (lv_at hl 0 rfl) ?_
          refine lv_iload_n hx hb d_Rows_startFor_61 rfl (lv_at hl 4 rfl) ?_
          refine lv_icmp_lt (tgt := 86) hx hb d_Rows_startFor_62 (by decide) (fun c_62 => ?_) (fun c_62 => ?_)
          · have hM := itT hM c_62
            refine lv_iinc (v := x5 + 1) (lv' := [(5, .int (x5 + 1)), (6, .int (x5 - x4)), (0, .ref qR), (1, .int p1), (2, .int x2), (3, .int x3), (4, .int x4)]) hx hb d_Rows_startFor_86 hl (k := 6) rfl rfl (by decide) rfl (fun ls hl => ?_)
            refine lv_goto (tgt := 10) hx hb d_Rows_startFor_89 (by decide) ?_
            exact ih x2 x3 x4 (x5 + 1) hM _ _ _ hP hD hS (lv_sub hl [2, 3, 4, 5, 6, 0] rfl)
          · have hM := itF hM c_62
            refine lv_iload_n hx hb d_Rows_startFor_65 rfl (lv_at hl 2 rfl) ?_
            refine lv_iload hx hb d_Rows_startFor_66 (lv_at hl 0 rfl) ?_
            obtain ⟨r_68, hc_68, hM⟩ := bd1T hM
            refine ca_SN (As := [.int p1, .int (x5 - x4)]) (rest := []) (wr := [(qR, .inr (2, [.ref qRs, .int rlen, .int rsz])), (qRs, .inl (cT 2, 300, .inl rsg))]) (w2 := [(qR, .inr (2, [.ref qRs, .int rlen, .int rsz])), (qRs, .inl (cT 2, 300, .inl rsg))]) S hE (c_Or_beginning l D cT p1 (x5 - x4) hc_68) gw_227ff094 rfl rfl ⟨Nat.le_of_ble_eq_true rfl, Nat.le_of_ble_eq_true rfl⟩ rfl hl.1 rfl (Nat.le_of_ble_eq_true rfl) d_Rows_startFor_68 ⟨Nat.zero_le _, Nat.zero_le _⟩ hP hD hS hA [] [0, 1] [0, 1] rfl rfl (by decide) (by decide) rfl (by decide) (by decide) (fun H locs hP hD hS => ?_)
            refine lv_aload_n hx hb d_Rows_startFor_71 rfl (lv_at hl 1 rfl) ?_
            refine lv_iload hx hb d_Rows_startFor_72 (lv_at hl 5 rfl) ?_
            obtain ⟨r_74, hc_74, hM⟩ := bd1T hM
            refine ca_V (As := [.int x4]) (rest := [.int r_68]) (wr := []) (w2 := [(qR, .inr (2, [.ref qRs, .int rlen, .int rsz])), (qRs, .inl (cT 2, 300, .inl rsg))]) S hE (c_Rows_numberAt l D cT qR qRs rlen rsz rsg x4 hc_74) gw_fe3e403b rfl rfl ⟨Nat.le_of_ble_eq_true rfl, Nat.le_of_ble_eq_true rfl⟩ (ci := 2) rfl rfl (k0 := 0) rfl rfl hl.1 rfl (Nat.le_of_ble_eq_true rfl) d_Rows_startFor_74 ⟨Nat.zero_le _, Nat.zero_le _⟩ hP hD hS hA [0, 1] [] [0, 1] rfl rfl (by decide) (by decide) rfl (by decide) (by decide) (fun H locs hP hD hS => ?_)
            refine lv_icmp_ne (tgt := 86) hx hb d_Rows_startFor_77 (by decide) (fun c_77 => ?_) (fun c_77 => ?_)
            · have hM := itF hM c_77
              refine lv_iinc (v := x5 + 1) (lv' := [(5, .int (x5 + 1)), (6, .int (x5 - x4)), (0, .ref qR), (1, .int p1), (2, .int x2), (3, .int x3), (4, .int x4)]) hx hb d_Rows_startFor_86 hl (k := 6) rfl rfl (by decide) rfl (fun ls hl => ?_)
              refine lv_goto (tgt := 10) hx hb d_Rows_startFor_89 (by decide) ?_
              exact ih x2 x3 x4 (x5 + 1) hM _ _ _ hP hD hS (lv_sub hl [2, 3, 4, 5, 6, 0] rfl)
            · have hM := itT hM c_77
              refine lv_iload hx hb d_Rows_startFor_80 (lv_at hl 5 rfl) ?_
              refine lv_istore_n (lv' := [(2, .int x4), (6, .int (x5 - x4)), (0, .ref qR), (1, .int p1), (3, .int x3), (4, .int x4), (5, .int x5)]) hx hb d_Rows_startFor_82 rfl hl (by decide) rfl (fun ls hl => ?_)
              refine lv_iload hx hb d_Rows_startFor_83 (lv_at hl 1 rfl) ?_
              refine lv_istore_n (lv' := [(3, .int (x5 - x4)), (2, .int x4), (6, .int (x5 - x4)), (0, .ref qR), (1, .int p1), (4, .int x4), (5, .int x5)]) hx hb d_Rows_startFor_85 rfl hl (by decide) rfl (fun ls hl => ?_)
              refine lv_iinc (v := x5 + 1) (lv' := [(5, .int (x5 + 1)), (3, .int (x5 - x4)), (2, .int x4), (6, .int (x5 - x4)), (0, .ref qR), (1, .int p1), (4, .int x4)]) hx hb d_Rows_startFor_86 hl (k := 6) rfl rfl (by decide) rfl (fun ls hl => ?_)
              refine lv_goto (tgt := 10) hx hb d_Rows_startFor_89 (by decide) ?_
              exact ih x4 (x5 - x4) x4 (x5 + 1) hM _ _ _ hP hD hS (lv_sub hl [4, 5, 2, 1, 6, 0] rfl)
      · have hM := itT hM c_35
        refine lv_iload hx hb d_Rows_startFor_38 (lv_at hl 6 rfl) ?_
        refine lv_iconst (v := 1) hx hb d_Rows_startFor_40 (by decide) ?_
        refine lv_iadd hx hb d_Rows_startFor_41 ?_
        refine lv_istore (lv' := [(4, .int (x5 + 1)), (6, .int (x5 - x4)), (0, .ref qR), (1, .int p1), (2, .int x2), (3, .int x3), (5, .int x5)]) hx hb d_Rows_startFor_42 hl (by decide) rfl (fun ls hl => ?_)
        refine lv_goto (tgt := 86) hx hb d_Rows_startFor_44 (by decide) ?_
        refine lv_iinc (v := x5 + 1) (lv' := [(5, .int (x5 + 1)), (4, .int (x5 + 1)), (6, .int (x5 - x4)), (0, .ref qR), (1, .int p1), (2, .int x2), (3, .int x3)]) hx hb d_Rows_startFor_86 hl (k := 6) rfl rfl (by decide) rfl (fun ls hl => ?_)
        refine lv_goto (tgt := 10) hx hb d_Rows_startFor_89 (by decide) ?_
        exact ih x2 x3 (x5 + 1) (x5 + 1) hM _ _ _ hP hD hS (lv_sub hl [3, 4, 5, 6, 1, 0] rfl)
set_option maxHeartbeats 4000000 in
set_option maxRecDepth 100000 in
theorem c_Rows_startFor (l : Launch) (D : va_G) (cT : Nat → ClassId) (qR : Nat) (qRs : Nat) (rlen : Int32) (rsz : Int32) (rsg : Nat → Int32) (p1 : Int32) {rr : Int32} (hM : m_Rows_startFor p1 rlen rsg = some rr) : Ct l y_Rows_startFor (WS y_Rows_startFor b_Rows_startFor 7 (some .int)) rm_Rows_startFor D cT [.ref qR, .int p1] [(qR, .inr (2, [.ref qRs, .int rlen, .int rsz])), (qRs, .inl (cT 2, 300, .inl rsg))] (some (.int rr)) [(qR, .inr (2, [.ref qRs, .int rlen, .int rsz])), (qRs, .inl (cT 2, 300, .inl rsg))] 0 0 := by
  intro sz
  refine Met.ofW (cc := b_Rows_startFor) (maxL := 7) (ret := (some .int)) (by decide) rfl ?_
  intro p e s m args below meth c s₁ B hml hv
  obtain ⟨rfl, hsz, hP, hE, hD0⟩ := hv
  have hx := B.exec
  have hb := B.bytes
  have hr := B.returns
  have hts : ∀ w ∈ TB, w.before _ s = true := fun w h => atoms_spec (ws := WS y_Rows_startFor b_Rows_startFor 7 (some .int)) B.pre w (List.mem_cons_of_mem _ h)
  have hown : s.vm.findClass R_Rows = some m.cls := findClass_of_methodNamed B.named
  have hlocks := B.notSynchronized
  have hK := hE.1
  have hN := hE.2
  subst hsz
  have hD := hD0.self (sz := s.heap.size)
  generalize hAe : va_A [(qR, .inr (2, [.ref qRs, .int rlen, .int rsz])), (qRs, .inl (cT 2, 300, .inl rsg))] s.heap.size = A at hD ⊢
  have hA : ∀ q : Nat, s.heap.size ≤ q → A q := fun q h => by rw [← hAe]; exact Or.inr h
  have hS : va_S A s.heap s.heap [] := va_S.rf
  have hl := lv_entry ([.ref qR, .int p1]) (n := 7) (Nat.le_of_ble_eq_true rfl)
  rw [lg_entry_eq]
  generalize (lg_sl ([.ref qR, .int p1]) ++ List.replicate (7 - (lg_sl ([.ref qR, .int p1])).length) Slot.unset).toArray = ls at hl ⊢
  have hl : lv_has ls 7 [(0, .ref qR), (1, .int p1)] := hl
  have S : CallFix p m c b_Rows_startFor 7 s _ TB R_Rows := ⟨hx, hb, hml, hown, hts⟩
  unfold m_Rows_startFor at hM
  refine lv_iconst (v := (-1)) hx hb d_Rows_startFor_0 (by decide) ?_
  refine lv_istore_n (lv' := [(2, .int (-1)), (0, .ref qR), (1, .int p1)]) hx hb d_Rows_startFor_1 rfl hl (by decide) rfl (fun ls hl => ?_)
  refine lv_iconst (v := 0) hx hb d_Rows_startFor_2 (by decide) ?_
  refine lv_istore_n (lv' := [(3, .int 0), (2, .int (-1)), (0, .ref qR), (1, .int p1)]) hx hb d_Rows_startFor_3 rfl hl (by decide) rfl (fun ls hl => ?_)
  refine lv_iconst (v := 0) hx hb d_Rows_startFor_4 (by decide) ?_
  refine lv_istore (lv' := [(4, .int 0), (3, .int 0), (2, .int (-1)), (0, .ref qR), (1, .int p1)]) hx hb d_Rows_startFor_5 hl (by decide) rfl (fun ls hl => ?_)
  refine lv_iconst (v := 0) hx hb d_Rows_startFor_7 (by decide) ?_
  refine lv_istore (lv' := [(5, .int 0), (4, .int 0), (3, .int 0), (2, .int (-1)), (0, .ref qR), (1, .int p1)]) hx hb d_Rows_startFor_8 hl (by decide) rfl (fun ls hl => ?_)
  exact w_Rows_startFor_10 S hr hlocks hE hA 2000 (-1) 0 0 0 hM _ _ _ hP hD hS (lv_sub hl [4, 5, 3, 2, 1, 0] rfl)
def rm_Parts_add : Room := { frames := 0, cells := 0, slots := 0, locals := 0 }
set_option maxHeartbeats 4000000 in
set_option maxRecDepth 100000 in
theorem c_Parts_add (l : Launch) (D : va_G) (cT : Nat → ClassId) (qP : Nat) (qPc : Nat) (qPl : Nat) (qPv : Nat) (psz : Int32) (pcd : Nat → Int32) (pld : Nat → Int32) (pct : Nat → Int64) (p1 : Int32) (p2 : Int32) (p3 : Int64) {rr : Int32} {o_psz : Int32} {o_pcd : Nat → Int32} {o_pld : Nat → Int32} {o_pct : Nat → Int64} (hM : m_Parts_add p1 p2 p3 psz pcd pld pct = some (rr, o_psz, o_pcd, o_pld, o_pct)) : Ct l y_Parts_add (WS y_Parts_add b_Parts_add 5 (some .int)) rm_Parts_add D cT [.ref qP, .int p1, .int p2, .long p3] [(qP, .inr (3, [.ref qPc, .ref qPl, .ref qPv, .int psz])), (qPc, .inl (cT 0, 12, .inl pcd)), (qPl, .inl (cT 0, 12, .inl pld)), (qPv, .inl (cT 1, 12, .inr (.inl pct)))] (some (.int rr)) [(qP, .inr (3, [.ref qPc, .ref qPl, .ref qPv, .int o_psz])), (qPc, .inl (cT 0, 12, .inl o_pcd)), (qPl, .inl (cT 0, 12, .inl o_pld)), (qPv, .inl (cT 1, 12, .inr (.inl o_pct)))] 0 0 := by
  intro sz
  refine Met.ofW (cc := b_Parts_add) (maxL := 5) (ret := (some .int)) (by decide) rfl ?_
  intro p e s m args below meth c s₁ B hml hv
  obtain ⟨rfl, hsz, hP, hE, hD0⟩ := hv
  have hx := B.exec
  have hb := B.bytes
  have hr := B.returns
  have hts : ∀ w ∈ TB, w.before _ s = true := fun w h => atoms_spec (ws := WS y_Parts_add b_Parts_add 5 (some .int)) B.pre w (List.mem_cons_of_mem _ h)
  have hown : s.vm.findClass R_Parts = some m.cls := findClass_of_methodNamed B.named
  have hlocks := B.notSynchronized
  have hK := hE.1
  have hN := hE.2
  subst hsz
  have hD := hD0.self (sz := s.heap.size)
  generalize hAe : va_A [(qP, .inr (3, [.ref qPc, .ref qPl, .ref qPv, .int psz])), (qPc, .inl (cT 0, 12, .inl pcd)), (qPl, .inl (cT 0, 12, .inl pld)), (qPv, .inl (cT 1, 12, .inr (.inl pct)))] s.heap.size = A at hD ⊢
  have hA : ∀ q : Nat, s.heap.size ≤ q → A q := fun q h => by rw [← hAe]; exact Or.inr h
  have hS : va_S A s.heap s.heap [] := va_S.rf
  have hl := lv_entry ([.ref qP, .int p1, .int p2, .long p3]) (n := 5) (Nat.le_of_ble_eq_true rfl)
  rw [lg_entry_eq]
  generalize (lg_sl ([.ref qP, .int p1, .int p2, .long p3]) ++ List.replicate (5 - (lg_sl ([.ref qP, .int p1, .int p2, .long p3])).length) Slot.unset).toArray = ls at hl ⊢
  have hl : lv_has ls 5 [(0, .ref qP), (1, .int p1), (2, .int p2), (3, .long p3)] := hl
  have S : CallFix p m c b_Parts_add 5 s _ TB R_Parts := ⟨hx, hb, hml, hown, hts⟩
  unfold m_Parts_add at hM
  refine lv_aload_n hx hb d_Parts_add_0 rfl (lv_at hl 0 rfl) ?_
  refine va_get (D := D) (ci := 3) (v := .ref qPc) (C := R_Parts) (T := F_Parts) (N := 4) hx hb hts i_Parts hown hK hP 0 rfl rfl 0 (by decide) (hts _ iw_f06cb5b8) (fun _ h9 => h9) rfl d_Parts_add_1 ?_
  refine lv_aload_n hx hb d_Parts_add_4 rfl (lv_at hl 0 rfl) ?_
  refine va_get (D := D) (ci := 3) (v := .int psz) (C := R_Parts) (T := F_Parts) (N := 4) hx hb hts i_Parts hown hK hP 0 rfl rfl 3 (by decide) (hts _ iw_3f426869) (fun _ h9 => h9) rfl d_Parts_add_5 ?_
  refine lv_iload_n hx hb d_Parts_add_8 rfl (lv_at hl 1 rfl) ?_
  obtain ⟨hin_9, hM⟩ := ixT hM
  refine va_iast hx hb hK hP hD hS 1 0 rfl rfl hin_9 d_Parts_add_9 (fun H locs hP hD hS => ?_)
  have hP : va_P D classes [(qP, .inr (3, [.ref qPc, .ref qPl, .ref qPv, .int psz])), (qPc, .inl (cT 0, 12, .inl (upd pcd psz.toNatClampNeg p1))), (qPl, .inl (cT 0, 12, .inl pld)), (qPv, .inl (cT 1, 12, .inr (.inl pct)))] H := hP
  have hD : va_D A [(qP, .inr (3, [.ref qPc, .ref qPl, .ref qPv, .int psz])), (qPc, .inl (cT 0, 12, .inl (upd pcd psz.toNatClampNeg p1))), (qPl, .inl (cT 0, 12, .inl pld)), (qPv, .inl (cT 1, 12, .inr (.inl pct)))] := hD
  refine lv_aload_n hx hb d_Parts_add_10 rfl (lv_at hl 0 rfl) ?_
  refine va_get (D := D) (ci := 3) (v := .ref qPl) (C := R_Parts) (T := F_Parts) (N := 4) hx hb hts i_Parts hown hK hP 0 rfl rfl 1 (by decide) (hts _ iw_e4ab4480) (fun _ h9 => h9) rfl d_Parts_add_11 ?_
  refine lv_aload_n hx hb d_Parts_add_14 rfl (lv_at hl 0 rfl) ?_
  refine va_get (D := D) (ci := 3) (v := .int psz) (C := R_Parts) (T := F_Parts) (N := 4) hx hb hts i_Parts hown hK hP 0 rfl rfl 3 (by decide) (hts _ iw_3f426869) (fun _ h9 => h9) rfl d_Parts_add_15 ?_
  refine lv_iload_n hx hb d_Parts_add_18 rfl (lv_at hl 2 rfl) ?_
  obtain ⟨hin_19, hM⟩ := ixT hM
  refine va_iast hx hb hK hP hD hS 2 0 rfl rfl hin_19 d_Parts_add_19 (fun H locs hP hD hS => ?_)
  have hP : va_P D classes [(qP, .inr (3, [.ref qPc, .ref qPl, .ref qPv, .int psz])), (qPc, .inl (cT 0, 12, .inl (upd pcd psz.toNatClampNeg p1))), (qPl, .inl (cT 0, 12, .inl (upd pld psz.toNatClampNeg p2))), (qPv, .inl (cT 1, 12, .inr (.inl pct)))] H := hP
  have hD : va_D A [(qP, .inr (3, [.ref qPc, .ref qPl, .ref qPv, .int psz])), (qPc, .inl (cT 0, 12, .inl (upd pcd psz.toNatClampNeg p1))), (qPl, .inl (cT 0, 12, .inl (upd pld psz.toNatClampNeg p2))), (qPv, .inl (cT 1, 12, .inr (.inl pct)))] := hD
  refine lv_aload_n hx hb d_Parts_add_20 rfl (lv_at hl 0 rfl) ?_
  refine va_get (D := D) (ci := 3) (v := .ref qPv) (C := R_Parts) (T := F_Parts) (N := 4) hx hb hts i_Parts hown hK hP 0 rfl rfl 2 (by decide) (hts _ iw_35ba64e4) (fun _ h9 => h9) rfl d_Parts_add_21 ?_
  refine lv_aload_n hx hb d_Parts_add_24 rfl (lv_at hl 0 rfl) ?_
  refine va_get (D := D) (ci := 3) (v := .int psz) (C := R_Parts) (T := F_Parts) (N := 4) hx hb hts i_Parts hown hK hP 0 rfl rfl 3 (by decide) (hts _ iw_3f426869) (fun _ h9 => h9) rfl d_Parts_add_25 ?_
  refine lv_lload_n hx hb d_Parts_add_28 rfl (lv_at hl 3 rfl) ?_
  obtain ⟨hin_29, hM⟩ := ixT hM
  refine va_last hx hb hK hP hD hS 3 1 rfl rfl hin_29 d_Parts_add_29 (fun H locs hP hD hS => ?_)
  have hP : va_P D classes [(qP, .inr (3, [.ref qPc, .ref qPl, .ref qPv, .int psz])), (qPc, .inl (cT 0, 12, .inl (upd pcd psz.toNatClampNeg p1))), (qPl, .inl (cT 0, 12, .inl (upd pld psz.toNatClampNeg p2))), (qPv, .inl (cT 1, 12, .inr (.inl (vp_updL pct psz.toNatClampNeg p3))))] H := hP
  have hD : va_D A [(qP, .inr (3, [.ref qPc, .ref qPl, .ref qPv, .int psz])), (qPc, .inl (cT 0, 12, .inl (upd pcd psz.toNatClampNeg p1))), (qPl, .inl (cT 0, 12, .inl (upd pld psz.toNatClampNeg p2))), (qPv, .inl (cT 1, 12, .inr (.inl (vp_updL pct psz.toNatClampNeg p3))))] := hD
  refine lv_aload_n hx hb d_Parts_add_30 rfl (lv_at hl 0 rfl) ?_
  refine lv_dup hx hb d_Parts_add_31 rfl ?_
  refine va_get (D := D) (ci := 3) (v := .int psz) (C := R_Parts) (T := F_Parts) (N := 4) hx hb hts i_Parts hown hK hP 0 rfl rfl 3 (by decide) (hts _ iw_3f426869) (fun _ h9 => h9) rfl d_Parts_add_32 ?_
  refine lv_iconst (v := 1) hx hb d_Parts_add_35 (by decide) ?_
  refine lv_iadd hx hb d_Parts_add_36 ?_
  refine va_put (D := D) (ci := 3) (v := .int (psz + 1)) (ty := .int) (C := R_Parts) (T := F_Parts) (N := 4) hx hb hts i_Parts t_Parts t_Parts_ok n_Parts hown hK hP hD hS 0 rfl rfl 3 (by decide) (hts _ iw_3f426869) (fun _ h9 => h9) rfl (by decide +kernel) rfl rfl (Nat.le_of_ble_eq_true rfl) d_Parts_add_37 (fun H locs hP hD hS => ?_)
  have hP : va_P D classes [(qP, .inr (3, [.ref qPc, .ref qPl, .ref qPv, .int (psz + 1)])), (qPc, .inl (cT 0, 12, .inl (upd pcd psz.toNatClampNeg p1))), (qPl, .inl (cT 0, 12, .inl (upd pld psz.toNatClampNeg p2))), (qPv, .inl (cT 1, 12, .inr (.inl (vp_updL pct psz.toNatClampNeg p3))))] H := hP
  have hD : va_D A [(qP, .inr (3, [.ref qPc, .ref qPl, .ref qPv, .int (psz + 1)])), (qPc, .inl (cT 0, 12, .inl (upd pcd psz.toNatClampNeg p1))), (qPl, .inl (cT 0, 12, .inl (upd pld psz.toNatClampNeg p2))), (qPv, .inl (cT 1, 12, .inr (.inl (vp_updL pct psz.toNatClampNeg p3))))] := hD
  refine lv_aload_n hx hb d_Parts_add_40 rfl (lv_at hl 0 rfl) ?_
  refine va_get (D := D) (ci := 3) (v := .int (psz + 1)) (C := R_Parts) (T := F_Parts) (N := 4) hx hb hts i_Parts hown hK hP 0 rfl rfl 3 (by decide) (hts _ iw_3f426869) (fun _ h9 => h9) rfl d_Parts_add_41 ?_
  obtain ⟨eo0, eo1, eo2, eo3, eo4⟩ := so5T hM
  subst eo0
  subst eo1
  subst eo2
  subst eo3
  subst eo4
  exact rt_i S hr hlocks hP hD hS d_Parts_add_44
def rm_Parts_forget : Room := { frames := 0, cells := 0, slots := 0, locals := 0 }
set_option maxHeartbeats 4000000 in
set_option maxRecDepth 100000 in
theorem c_Parts_forget (l : Launch) (D : va_G) (cT : Nat → ClassId) (qP : Nat) (qPc : Nat) (qPl : Nat) (qPv : Nat) (psz : Int32) (pcd : Nat → Int32) (pld : Nat → Int32) (pct : Nat → Int64) {rr : Int32} {o_psz : Int32} (hM : m_Parts_forget psz = some (rr, o_psz)) : Ct l y_Parts_forget (WS y_Parts_forget b_Parts_forget 2 (some .int)) rm_Parts_forget D cT [.ref qP] [(qP, .inr (3, [.ref qPc, .ref qPl, .ref qPv, .int psz])), (qPc, .inl (cT 0, 12, .inl pcd)), (qPl, .inl (cT 0, 12, .inl pld)), (qPv, .inl (cT 1, 12, .inr (.inl pct)))] (some (.int rr)) [(qP, .inr (3, [.ref qPc, .ref qPl, .ref qPv, .int o_psz])), (qPc, .inl (cT 0, 12, .inl pcd)), (qPl, .inl (cT 0, 12, .inl pld)), (qPv, .inl (cT 1, 12, .inr (.inl pct)))] 0 0 := by
  intro sz
  refine Met.ofW (cc := b_Parts_forget) (maxL := 2) (ret := (some .int)) (by decide) rfl ?_
  intro p e s m args below meth c s₁ B hml hv
  obtain ⟨rfl, hsz, hP, hE, hD0⟩ := hv
  have hx := B.exec
  have hb := B.bytes
  have hr := B.returns
  have hts : ∀ w ∈ TB, w.before _ s = true := fun w h => atoms_spec (ws := WS y_Parts_forget b_Parts_forget 2 (some .int)) B.pre w (List.mem_cons_of_mem _ h)
  have hown : s.vm.findClass R_Parts = some m.cls := findClass_of_methodNamed B.named
  have hlocks := B.notSynchronized
  have hK := hE.1
  have hN := hE.2
  subst hsz
  have hD := hD0.self (sz := s.heap.size)
  generalize hAe : va_A [(qP, .inr (3, [.ref qPc, .ref qPl, .ref qPv, .int psz])), (qPc, .inl (cT 0, 12, .inl pcd)), (qPl, .inl (cT 0, 12, .inl pld)), (qPv, .inl (cT 1, 12, .inr (.inl pct)))] s.heap.size = A at hD ⊢
  have hA : ∀ q : Nat, s.heap.size ≤ q → A q := fun q h => by rw [← hAe]; exact Or.inr h
  have hS : va_S A s.heap s.heap [] := va_S.rf
  have hl := lv_entry ([.ref qP]) (n := 2) (Nat.le_of_ble_eq_true rfl)
  rw [lg_entry_eq]
  generalize (lg_sl ([.ref qP]) ++ List.replicate (2 - (lg_sl ([.ref qP])).length) Slot.unset).toArray = ls at hl ⊢
  have hl : lv_has ls 2 [(0, .ref qP)] := hl
  have S : CallFix p m c b_Parts_forget 2 s _ TB R_Parts := ⟨hx, hb, hml, hown, hts⟩
  unfold m_Parts_forget at hM
  refine lv_aload_n hx hb d_Parts_forget_0 rfl (lv_at hl 0 rfl) ?_
  refine va_get (D := D) (ci := 3) (v := .int psz) (C := R_Parts) (T := F_Parts) (N := 4) hx hb hts i_Parts hown hK hP 0 rfl rfl 3 (by decide) (hts _ iw_3f426869) (fun _ h9 => h9) rfl d_Parts_forget_1 ?_
  refine lv_istore_n (lv' := [(1, .int psz), (0, .ref qP)]) hx hb d_Parts_forget_4 rfl hl (by decide) rfl (fun ls hl => ?_)
  refine lv_aload_n hx hb d_Parts_forget_5 rfl (lv_at hl 1 rfl) ?_
  refine lv_iconst (v := 0) hx hb d_Parts_forget_6 (by decide) ?_
  refine va_put (D := D) (ci := 3) (v := .int 0) (ty := .int) (C := R_Parts) (T := F_Parts) (N := 4) hx hb hts i_Parts t_Parts t_Parts_ok n_Parts hown hK hP hD hS 0 rfl rfl 3 (by decide) (hts _ iw_3f426869) (fun _ h9 => h9) rfl (by decide +kernel) rfl rfl (Nat.le_of_ble_eq_true rfl) d_Parts_forget_7 (fun H locs hP hD hS => ?_)
  have hP : va_P D classes [(qP, .inr (3, [.ref qPc, .ref qPl, .ref qPv, .int 0])), (qPc, .inl (cT 0, 12, .inl pcd)), (qPl, .inl (cT 0, 12, .inl pld)), (qPv, .inl (cT 1, 12, .inr (.inl pct)))] H := hP
  have hD : va_D A [(qP, .inr (3, [.ref qPc, .ref qPl, .ref qPv, .int 0])), (qPc, .inl (cT 0, 12, .inl pcd)), (qPl, .inl (cT 0, 12, .inl pld)), (qPv, .inl (cT 1, 12, .inr (.inl pct)))] := hD
  refine lv_iload_n hx hb d_Parts_forget_10 rfl (lv_at hl 0 rfl) ?_
  obtain ⟨eo0, eo1⟩ := so2T hM
  subst eo0
  subst eo1
  exact rt_i S hr hlocks hP hD hS d_Parts_forget_11
def rm_Parts_foreignParts : Room := { frames := 1, cells := 0, slots := 0, locals := 21 }
set_option maxHeartbeats 4000000 in
set_option maxRecDepth 100000 in
theorem w_Parts_foreignParts_4 {p : Program} {l : Launch} {e : Env} {s : State} {m : MethodId} {args : Array Value} {below : List Frame} {meth : Method} {c : Code} {D : va_G} {cT : Nat → ClassId} {A : Nat → Prop} (S : CallFix p m c b_Parts_foreignParts 4 s args TB R_Parts) (hr : meth.sig.returnType = (some .int)) (hlocks : meth.locks = false) (hE : EN D cT s) (hA : ∀ q, s.heap.size ≤ q → A q) {qP : Nat} {qPc : Nat} {qPl : Nat} {qPv : Nat} {psz : Int32} {pcd : Nat → Int32} {pld : Nat → Int32} {pct : Nat → Int64} {p1 : Int32} {rr : Int32} : ∀ (n : Nat) (x2 : Int32) (x3 : Int32), k_Parts_foreignParts_4 psz pld p1  n x2 x3 = some rr → ∀ (H : Heap) (locs : List Loc) (ls : Array Slot), va_P D classes [(qP, .inr (3, [.ref qPc, .ref qPl, .ref qPv, .int psz])), (qPc, .inl (cT 0, 12, .inl pcd)), (qPl, .inl (cT 0, 12, .inl pld)), (qPv, .inl (cT 1, 12, .inr (.inl pct)))] H → va_D A [(qP, .inr (3, [.ref qPc, .ref qPl, .ref qPv, .int psz])), (qPc, .inl (cT 0, 12, .inl pcd)), (qPl, .inl (cT 0, 12, .inl pld)), (qPv, .inl (cT 1, 12, .inr (.inl pct)))] → va_S A s.heap H locs → lv_has ls 4 [(0, .ref qP), (1, .int p1), (2, .int x2), (3, .int x3)] → W p l e (headSpec (WS y_Parts_foreignParts b_Parts_foreignParts 4 (some .int)) rm_Parts_foreignParts).room s m args below meth c H locs 0 0 (MQ below (qW D A [(qP, .inr (3, [.ref qPc, .ref qPl, .ref qPv, .int psz])), (qPc, .inl (cT 0, 12, .inl pcd)), (qPl, .inl (cT 0, 12, .inl pld)), (qPv, .inl (cT 1, 12, .inr (.inl pct)))] (some (.int rr))) args s 0 0 A) (F0 m 4 ls []) := by
  obtain ⟨hx, hb, hml, hown, hts⟩ := id S
  have hK := hE.1
  have hN := hE.2
  intro n
  induction n with
  | zero =>
    intro x2 x3 hM
    rw [k_Parts_foreignParts_4_z] at hM
    cases hM
  | succ n ih =>
    intro x2 x3 hM H locs ls hP hD hS hl
    rw [k_Parts_foreignParts_4_s] at hM
    refine lv_iload_n hx hb d_Parts_foreignParts_4 rfl (lv_at hl 3 rfl) ?_
    refine lv_aload_n hx hb d_Parts_foreignParts_5 rfl (lv_at hl 0 rfl) ?_
    refine va_get (D := D) (ci := 3) (v := .int psz) (C := R_Parts) (T := F_Parts) (N := 4) hx hb hts i_Parts hown hK hP 0 rfl rfl 3 (by decide) (hts _ iw_3f426869) (fun _ h9 => h9) rfl d_Parts_foreignParts_6 ?_
    refine lv_icmp_ge (tgt := 34) hx hb d_Parts_foreignParts_9 (by decide) (fun c_9 => ?_) (fun c_9 => ?_)
    · have hM := itT hM c_9
      refine lv_iload_n hx hb d_Parts_foreignParts_34 rfl (lv_at hl 2 rfl) ?_
      have eo0 := Option.some.inj hM
      subst eo0
      exact rt_i S hr hlocks hP hD hS d_Parts_foreignParts_35
    · have hM := itF hM c_9
      refine lv_iload_n hx hb d_Parts_foreignParts_12 rfl (lv_at hl 1 rfl) ?_
      refine lv_aload_n hx hb d_Parts_foreignParts_13 rfl (lv_at hl 0 rfl) ?_
      refine va_get (D := D) (ci := 3) (v := .ref qPl) (C := R_Parts) (T := F_Parts) (N := 4) hx hb hts i_Parts hown hK hP 0 rfl rfl 1 (by decide) (hts _ iw_e4ab4480) (fun _ h9 => h9) rfl d_Parts_foreignParts_14 ?_
      refine lv_iload_n hx hb d_Parts_foreignParts_17 rfl (lv_at hl 3 rfl) ?_
      obtain ⟨hin_18, hM⟩ := ixT hM
      refine va_iald hx hb hK hP 2 0 rfl rfl hin_18 d_Parts_foreignParts_18 ?_
      obtain ⟨r_19, hc_19, hM⟩ := bd1T hM
      refine ca_SN (As := [.int p1, .int (pld x3.toNatClampNeg)]) (rest := []) (wr := [(qP, .inr (3, [.ref qPc, .ref qPl, .ref qPv, .int psz])), (qPc, .inl (cT 0, 12, .inl pcd)), (qPl, .inl (cT 0, 12, .inl pld)), (qPv, .inl (cT 1, 12, .inr (.inl pct)))]) (w2 := [(qP, .inr (3, [.ref qPc, .ref qPl, .ref qPv, .int psz])), (qPc, .inl (cT 0, 12, .inl pcd)), (qPl, .inl (cT 0, 12, .inl pld)), (qPv, .inl (cT 1, 12, .inr (.inl pct)))]) S hE (c_Or_hasBit l D cT p1 (pld x3.toNatClampNeg) hc_19) gw_791aebbf rfl rfl ⟨Nat.le_of_ble_eq_true rfl, Nat.le_of_ble_eq_true rfl⟩ rfl hl.1 rfl (Nat.le_of_ble_eq_true rfl) d_Parts_foreignParts_19 ⟨Nat.zero_le _, Nat.zero_le _⟩ hP hD hS hA [] [0, 1, 2, 3] [0, 1, 2, 3] rfl rfl (by decide) (by decide) rfl (by decide) (by decide) (fun H locs hP hD hS => ?_)
      refine lv_if_ne (tgt := 28) hx hb d_Parts_foreignParts_22 (by decide) (fun c_22 => ?_) (fun c_22 => ?_)
      · have hM := itF hM c_22
        refine lv_iinc (v := x3 + 1) (lv' := [(3, .int (x3 + 1)), (0, .ref qP), (1, .int p1), (2, .int x2)]) hx hb d_Parts_foreignParts_28 hl (k := 3) rfl rfl (by decide) rfl (fun ls hl => ?_)
        refine lv_goto (tgt := 4) hx hb d_Parts_foreignParts_31 (by decide) ?_
        exact ih x2 (x3 + 1) hM _ _ _ hP hD hS (lv_sub hl [1, 2, 3, 0] rfl)
      · have hM := itT hM c_22
        refine lv_iinc (v := x2 + 1) (lv' := [(2, .int (x2 + 1)), (0, .ref qP), (1, .int p1), (3, .int x3)]) hx hb d_Parts_foreignParts_25 hl (k := 2) rfl rfl (by decide) rfl (fun ls hl => ?_)
        refine lv_iinc (v := x3 + 1) (lv' := [(3, .int (x3 + 1)), (2, .int (x2 + 1)), (0, .ref qP), (1, .int p1)]) hx hb d_Parts_foreignParts_28 hl (k := 3) rfl rfl (by decide) rfl (fun ls hl => ?_)
        refine lv_goto (tgt := 4) hx hb d_Parts_foreignParts_31 (by decide) ?_
        exact ih (x2 + 1) (x3 + 1) hM _ _ _ hP hD hS (lv_sub hl [2, 3, 1, 0] rfl)
set_option maxHeartbeats 4000000 in
set_option maxRecDepth 100000 in
theorem c_Parts_foreignParts (l : Launch) (D : va_G) (cT : Nat → ClassId) (qP : Nat) (qPc : Nat) (qPl : Nat) (qPv : Nat) (psz : Int32) (pcd : Nat → Int32) (pld : Nat → Int32) (pct : Nat → Int64) (p1 : Int32) {rr : Int32} (hM : m_Parts_foreignParts p1 psz pld = some rr) : Ct l y_Parts_foreignParts (WS y_Parts_foreignParts b_Parts_foreignParts 4 (some .int)) rm_Parts_foreignParts D cT [.ref qP, .int p1] [(qP, .inr (3, [.ref qPc, .ref qPl, .ref qPv, .int psz])), (qPc, .inl (cT 0, 12, .inl pcd)), (qPl, .inl (cT 0, 12, .inl pld)), (qPv, .inl (cT 1, 12, .inr (.inl pct)))] (some (.int rr)) [(qP, .inr (3, [.ref qPc, .ref qPl, .ref qPv, .int psz])), (qPc, .inl (cT 0, 12, .inl pcd)), (qPl, .inl (cT 0, 12, .inl pld)), (qPv, .inl (cT 1, 12, .inr (.inl pct)))] 0 0 := by
  intro sz
  refine Met.ofW (cc := b_Parts_foreignParts) (maxL := 4) (ret := (some .int)) (by decide) rfl ?_
  intro p e s m args below meth c s₁ B hml hv
  obtain ⟨rfl, hsz, hP, hE, hD0⟩ := hv
  have hx := B.exec
  have hb := B.bytes
  have hr := B.returns
  have hts : ∀ w ∈ TB, w.before _ s = true := fun w h => atoms_spec (ws := WS y_Parts_foreignParts b_Parts_foreignParts 4 (some .int)) B.pre w (List.mem_cons_of_mem _ h)
  have hown : s.vm.findClass R_Parts = some m.cls := findClass_of_methodNamed B.named
  have hlocks := B.notSynchronized
  have hK := hE.1
  have hN := hE.2
  subst hsz
  have hD := hD0.self (sz := s.heap.size)
  generalize hAe : va_A [(qP, .inr (3, [.ref qPc, .ref qPl, .ref qPv, .int psz])), (qPc, .inl (cT 0, 12, .inl pcd)), (qPl, .inl (cT 0, 12, .inl pld)), (qPv, .inl (cT 1, 12, .inr (.inl pct)))] s.heap.size = A at hD ⊢
  have hA : ∀ q : Nat, s.heap.size ≤ q → A q := fun q h => by rw [← hAe]; exact Or.inr h
  have hS : va_S A s.heap s.heap [] := va_S.rf
  have hl := lv_entry ([.ref qP, .int p1]) (n := 4) (Nat.le_of_ble_eq_true rfl)
  rw [lg_entry_eq]
  generalize (lg_sl ([.ref qP, .int p1]) ++ List.replicate (4 - (lg_sl ([.ref qP, .int p1])).length) Slot.unset).toArray = ls at hl ⊢
  have hl : lv_has ls 4 [(0, .ref qP), (1, .int p1)] := hl
  have S : CallFix p m c b_Parts_foreignParts 4 s _ TB R_Parts := ⟨hx, hb, hml, hown, hts⟩
  unfold m_Parts_foreignParts at hM
  refine lv_iconst (v := 0) hx hb d_Parts_foreignParts_0 (by decide) ?_
  refine lv_istore_n (lv' := [(2, .int 0), (0, .ref qP), (1, .int p1)]) hx hb d_Parts_foreignParts_1 rfl hl (by decide) rfl (fun ls hl => ?_)
  refine lv_iconst (v := 0) hx hb d_Parts_foreignParts_2 (by decide) ?_
  refine lv_istore_n (lv' := [(3, .int 0), (2, .int 0), (0, .ref qP), (1, .int p1)]) hx hb d_Parts_foreignParts_3 rfl hl (by decide) rfl (fun ls hl => ?_)
  exact w_Parts_foreignParts_4 S hr hlocks hE hA 2000 0 0 hM _ _ _ hP hD hS (lv_sub hl [2, 3, 1, 0] rfl)
def rm_Parts_foreignCents : Room := { frames := 1, cells := 0, slots := 0, locals := 21 }
set_option maxHeartbeats 4000000 in
set_option maxRecDepth 100000 in
theorem w_Parts_foreignCents_5 {p : Program} {l : Launch} {e : Env} {s : State} {m : MethodId} {args : Array Value} {below : List Frame} {meth : Method} {c : Code} {D : va_G} {cT : Nat → ClassId} {A : Nat → Prop} (S : CallFix p m c b_Parts_foreignCents 5 s args TB R_Parts) (hr : meth.sig.returnType = (some .long)) (hlocks : meth.locks = false) (hE : EN D cT s) (hA : ∀ q, s.heap.size ≤ q → A q) {qP : Nat} {qPc : Nat} {qPl : Nat} {qPv : Nat} {psz : Int32} {pcd : Nat → Int32} {pld : Nat → Int32} {pct : Nat → Int64} {p1 : Int32} {rr : Int64} : ∀ (n : Nat) (x2 : Int64) (x4 : Int32), k_Parts_foreignCents_5 psz pld pct p1  n x2 x4 = some rr → ∀ (H : Heap) (locs : List Loc) (ls : Array Slot), va_P D classes [(qP, .inr (3, [.ref qPc, .ref qPl, .ref qPv, .int psz])), (qPc, .inl (cT 0, 12, .inl pcd)), (qPl, .inl (cT 0, 12, .inl pld)), (qPv, .inl (cT 1, 12, .inr (.inl pct)))] H → va_D A [(qP, .inr (3, [.ref qPc, .ref qPl, .ref qPv, .int psz])), (qPc, .inl (cT 0, 12, .inl pcd)), (qPl, .inl (cT 0, 12, .inl pld)), (qPv, .inl (cT 1, 12, .inr (.inl pct)))] → va_S A s.heap H locs → lv_has ls 5 [(0, .ref qP), (1, .int p1), (2, .long x2), (4, .int x4)] → W p l e (headSpec (WS y_Parts_foreignCents b_Parts_foreignCents 5 (some .long)) rm_Parts_foreignCents).room s m args below meth c H locs 0 0 (MQ below (qW D A [(qP, .inr (3, [.ref qPc, .ref qPl, .ref qPv, .int psz])), (qPc, .inl (cT 0, 12, .inl pcd)), (qPl, .inl (cT 0, 12, .inl pld)), (qPv, .inl (cT 1, 12, .inr (.inl pct)))] (some (.long rr))) args s 0 0 A) (F0 m 5 ls []) := by
  obtain ⟨hx, hb, hml, hown, hts⟩ := id S
  have hK := hE.1
  have hN := hE.2
  intro n
  induction n with
  | zero =>
    intro x2 x4 hM
    rw [k_Parts_foreignCents_5_z] at hM
    cases hM
  | succ n ih =>
    intro x2 x4 hM H locs ls hP hD hS hl
    rw [k_Parts_foreignCents_5_s] at hM
    refine lv_iload hx hb d_Parts_foreignCents_5 (lv_at hl 3 rfl) ?_
    refine lv_aload_n hx hb d_Parts_foreignCents_7 rfl (lv_at hl 0 rfl) ?_
    refine va_get (D := D) (ci := 3) (v := .int psz) (C := R_Parts) (T := F_Parts) (N := 4) hx hb hts i_Parts hown hK hP 0 rfl rfl 3 (by decide) (hts _ iw_3f426869) (fun _ h9 => h9) rfl d_Parts_foreignCents_8 ?_
    refine lv_icmp_ge (tgt := 44) hx hb d_Parts_foreignCents_11 (by decide) (fun c_11 => ?_) (fun c_11 => ?_)
    · have hM := itT hM c_11
      refine lv_lload_n hx hb d_Parts_foreignCents_44 rfl (lv_at hl 2 rfl) ?_
      have eo0 := Option.some.inj hM
      subst eo0
      exact rt_j S hr hlocks hP hD hS d_Parts_foreignCents_45
    · have hM := itF hM c_11
      refine lv_iload_n hx hb d_Parts_foreignCents_14 rfl (lv_at hl 1 rfl) ?_
      refine lv_aload_n hx hb d_Parts_foreignCents_15 rfl (lv_at hl 0 rfl) ?_
      refine va_get (D := D) (ci := 3) (v := .ref qPl) (C := R_Parts) (T := F_Parts) (N := 4) hx hb hts i_Parts hown hK hP 0 rfl rfl 1 (by decide) (hts _ iw_e4ab4480) (fun _ h9 => h9) rfl d_Parts_foreignCents_16 ?_
      refine lv_iload hx hb d_Parts_foreignCents_19 (lv_at hl 3 rfl) ?_
      obtain ⟨hin_21, hM⟩ := ixT hM
      refine va_iald hx hb hK hP 2 0 rfl rfl hin_21 d_Parts_foreignCents_21 ?_
      obtain ⟨r_22, hc_22, hM⟩ := bd1T hM
      refine ca_SN (As := [.int p1, .int (pld x4.toNatClampNeg)]) (rest := []) (wr := [(qP, .inr (3, [.ref qPc, .ref qPl, .ref qPv, .int psz])), (qPc, .inl (cT 0, 12, .inl pcd)), (qPl, .inl (cT 0, 12, .inl pld)), (qPv, .inl (cT 1, 12, .inr (.inl pct)))]) (w2 := [(qP, .inr (3, [.ref qPc, .ref qPl, .ref qPv, .int psz])), (qPc, .inl (cT 0, 12, .inl pcd)), (qPl, .inl (cT 0, 12, .inl pld)), (qPv, .inl (cT 1, 12, .inr (.inl pct)))]) S hE (c_Or_hasBit l D cT p1 (pld x4.toNatClampNeg) hc_22) gw_791aebbf rfl rfl ⟨Nat.le_of_ble_eq_true rfl, Nat.le_of_ble_eq_true rfl⟩ rfl hl.1 rfl (Nat.le_of_ble_eq_true rfl) d_Parts_foreignCents_22 ⟨Nat.zero_le _, Nat.zero_le _⟩ hP hD hS hA [] [0, 1, 2, 3] [0, 1, 2, 3] rfl rfl (by decide) (by decide) rfl (by decide) (by decide) (fun H locs hP hD hS => ?_)
      refine lv_if_ne (tgt := 38) hx hb d_Parts_foreignCents_25 (by decide) (fun c_25 => ?_) (fun c_25 => ?_)
      · have hM := itF hM c_25
        refine lv_iinc (v := x4 + 1) (lv' := [(4, .int (x4 + 1)), (0, .ref qP), (1, .int p1), (2, .long x2)]) hx hb d_Parts_foreignCents_38 hl (k := 3) rfl rfl (by decide) rfl (fun ls hl => ?_)
        refine lv_goto (tgt := 5) hx hb d_Parts_foreignCents_41 (by decide) ?_
        exact ih x2 (x4 + 1) hM _ _ _ hP hD hS (lv_sub hl [1, 2, 3, 0] rfl)
      · have hM := itT hM c_25
        refine lv_lload_n hx hb d_Parts_foreignCents_28 rfl (lv_at hl 2 rfl) ?_
        refine lv_aload_n hx hb d_Parts_foreignCents_29 rfl (lv_at hl 0 rfl) ?_
        refine va_get (D := D) (ci := 3) (v := .ref qPv) (C := R_Parts) (T := F_Parts) (N := 4) hx hb hts i_Parts hown hK hP 0 rfl rfl 2 (by decide) (hts _ iw_35ba64e4) (fun _ h9 => h9) rfl d_Parts_foreignCents_30 ?_
        refine lv_iload hx hb d_Parts_foreignCents_33 (lv_at hl 3 rfl) ?_
        obtain ⟨hin_35, hM⟩ := ixT hM
        refine va_lald hx hb hK hP 3 1 rfl rfl hin_35 d_Parts_foreignCents_35 ?_
        refine lv_ladd hx hb d_Parts_foreignCents_36 ?_
        refine lv_lstore_n (lv' := [(2, .long (x2 + (pct x4.toNatClampNeg))), (0, .ref qP), (1, .int p1), (4, .int x4)]) hx hb d_Parts_foreignCents_37 rfl hl (by decide) rfl (fun ls hl => ?_)
        refine lv_iinc (v := x4 + 1) (lv' := [(4, .int (x4 + 1)), (2, .long (x2 + (pct x4.toNatClampNeg))), (0, .ref qP), (1, .int p1)]) hx hb d_Parts_foreignCents_38 hl (k := 3) rfl rfl (by decide) rfl (fun ls hl => ?_)
        refine lv_goto (tgt := 5) hx hb d_Parts_foreignCents_41 (by decide) ?_
        exact ih (x2 + (pct x4.toNatClampNeg)) (x4 + 1) hM _ _ _ hP hD hS (lv_sub hl [2, 3, 1, 0] rfl)
set_option maxHeartbeats 4000000 in
set_option maxRecDepth 100000 in
theorem c_Parts_foreignCents (l : Launch) (D : va_G) (cT : Nat → ClassId) (qP : Nat) (qPc : Nat) (qPl : Nat) (qPv : Nat) (psz : Int32) (pcd : Nat → Int32) (pld : Nat → Int32) (pct : Nat → Int64) (p1 : Int32) {rr : Int64} (hM : m_Parts_foreignCents p1 psz pld pct = some rr) : Ct l y_Parts_foreignCents (WS y_Parts_foreignCents b_Parts_foreignCents 5 (some .long)) rm_Parts_foreignCents D cT [.ref qP, .int p1] [(qP, .inr (3, [.ref qPc, .ref qPl, .ref qPv, .int psz])), (qPc, .inl (cT 0, 12, .inl pcd)), (qPl, .inl (cT 0, 12, .inl pld)), (qPv, .inl (cT 1, 12, .inr (.inl pct)))] (some (.long rr)) [(qP, .inr (3, [.ref qPc, .ref qPl, .ref qPv, .int psz])), (qPc, .inl (cT 0, 12, .inl pcd)), (qPl, .inl (cT 0, 12, .inl pld)), (qPv, .inl (cT 1, 12, .inr (.inl pct)))] 0 0 := by
  intro sz
  refine Met.ofW (cc := b_Parts_foreignCents) (maxL := 5) (ret := (some .long)) (by decide) rfl ?_
  intro p e s m args below meth c s₁ B hml hv
  obtain ⟨rfl, hsz, hP, hE, hD0⟩ := hv
  have hx := B.exec
  have hb := B.bytes
  have hr := B.returns
  have hts : ∀ w ∈ TB, w.before _ s = true := fun w h => atoms_spec (ws := WS y_Parts_foreignCents b_Parts_foreignCents 5 (some .long)) B.pre w (List.mem_cons_of_mem _ h)
  have hown : s.vm.findClass R_Parts = some m.cls := findClass_of_methodNamed B.named
  have hlocks := B.notSynchronized
  have hK := hE.1
  have hN := hE.2
  subst hsz
  have hD := hD0.self (sz := s.heap.size)
  generalize hAe : va_A [(qP, .inr (3, [.ref qPc, .ref qPl, .ref qPv, .int psz])), (qPc, .inl (cT 0, 12, .inl pcd)), (qPl, .inl (cT 0, 12, .inl pld)), (qPv, .inl (cT 1, 12, .inr (.inl pct)))] s.heap.size = A at hD ⊢
  have hA : ∀ q : Nat, s.heap.size ≤ q → A q := fun q h => by rw [← hAe]; exact Or.inr h
  have hS : va_S A s.heap s.heap [] := va_S.rf
  have hl := lv_entry ([.ref qP, .int p1]) (n := 5) (Nat.le_of_ble_eq_true rfl)
  rw [lg_entry_eq]
  generalize (lg_sl ([.ref qP, .int p1]) ++ List.replicate (5 - (lg_sl ([.ref qP, .int p1])).length) Slot.unset).toArray = ls at hl ⊢
  have hl : lv_has ls 5 [(0, .ref qP), (1, .int p1)] := hl
  have S : CallFix p m c b_Parts_foreignCents 5 s _ TB R_Parts := ⟨hx, hb, hml, hown, hts⟩
  unfold m_Parts_foreignCents at hM
  refine lv_lconst (v := 0) hx hb d_Parts_foreignCents_0 (by decide) ?_
  refine lv_lstore_n (lv' := [(2, .long 0), (0, .ref qP), (1, .int p1)]) hx hb d_Parts_foreignCents_1 rfl hl (by decide) rfl (fun ls hl => ?_)
  refine lv_iconst (v := 0) hx hb d_Parts_foreignCents_2 (by decide) ?_
  refine lv_istore (lv' := [(4, .int 0), (2, .long 0), (0, .ref qP), (1, .int p1)]) hx hb d_Parts_foreignCents_3 hl (by decide) rfl (fun ls hl => ?_)
  exact w_Parts_foreignCents_5 S hr hlocks hE hA 2000 0 0 hM _ _ _ hP hD hS (lv_sub hl [2, 3, 1, 0] rfl)
def rm_Parts_foreignCentsAlike : Room := { frames := 1, cells := 0, slots := 0, locals := 23 }
set_option maxHeartbeats 4000000 in
set_option maxRecDepth 100000 in
theorem w_Parts_foreignCentsAlike_13 {p : Program} {l : Launch} {e : Env} {s : State} {m : MethodId} {args : Array Value} {below : List Frame} {meth : Method} {c : Code} {D : va_G} {cT : Nat → ClassId} {A : Nat → Prop} (S : CallFix p m c b_Parts_foreignCentsAlike 8 s args TB R_Parts) (hr : meth.sig.returnType = (some .long)) (hlocks : meth.locks = false) (hE : EN D cT s) (hA : ∀ q, s.heap.size ≤ q → A q) {qP : Nat} {qPc : Nat} {qPl : Nat} {qPv : Nat} {psz : Int32} {pcd : Nat → Int32} {pld : Nat → Int32} {pct : Nat → Int64} {p1 : Int32} {p2 : Int32} {p3 : Int32} {rr : Int64} : ∀ (n : Nat) (x4 : Int32) (x5 : Int64) (x7 : Int32), k_Parts_foreignCentsAlike_13 psz pcd pld pct p1 p2 p3  n x4 x5 x7 = some rr → ∀ (H : Heap) (locs : List Loc) (ls : Array Slot), va_P D classes [(qP, .inr (3, [.ref qPc, .ref qPl, .ref qPv, .int psz])), (qPc, .inl (cT 0, 12, .inl pcd)), (qPl, .inl (cT 0, 12, .inl pld)), (qPv, .inl (cT 1, 12, .inr (.inl pct)))] H → va_D A [(qP, .inr (3, [.ref qPc, .ref qPl, .ref qPv, .int psz])), (qPc, .inl (cT 0, 12, .inl pcd)), (qPl, .inl (cT 0, 12, .inl pld)), (qPv, .inl (cT 1, 12, .inr (.inl pct)))] → va_S A s.heap H locs → lv_has ls 8 [(0, .ref qP), (1, .int p1), (3, .int p3), (4, .int x4), (5, .long x5), (7, .int x7)] → W p l e (headSpec (WS y_Parts_foreignCentsAlike b_Parts_foreignCentsAlike 8 (some .long)) rm_Parts_foreignCentsAlike).room s m args below meth c H locs 0 0 (MQ below (qW D A [(qP, .inr (3, [.ref qPc, .ref qPl, .ref qPv, .int psz])), (qPc, .inl (cT 0, 12, .inl pcd)), (qPl, .inl (cT 0, 12, .inl pld)), (qPv, .inl (cT 1, 12, .inr (.inl pct)))] (some (.long rr))) args s 0 0 A) (F0 m 13 ls []) := by
  obtain ⟨hx, hb, hml, hown, hts⟩ := id S
  have hK := hE.1
  have hN := hE.2
  intro n
  induction n with
  | zero =>
    intro x4 x5 x7 hM
    rw [k_Parts_foreignCentsAlike_13_z] at hM
    cases hM
  | succ n ih =>
    intro x4 x5 x7 hM H locs ls hP hD hS hl
    rw [k_Parts_foreignCentsAlike_13_s] at hM
    refine lv_iload hx hb d_Parts_foreignCentsAlike_13 (lv_at hl 5 rfl) ?_
    refine lv_aload_n hx hb d_Parts_foreignCentsAlike_15 rfl (lv_at hl 0 rfl) ?_
    refine va_get (D := D) (ci := 3) (v := .int psz) (C := R_Parts) (T := F_Parts) (N := 4) hx hb hts i_Parts hown hK hP 0 rfl rfl 3 (by decide) (hts _ iw_3f426869) (fun _ h9 => h9) rfl d_Parts_foreignCentsAlike_16 ?_
    refine lv_icmp_ge (tgt := 70) hx hb d_Parts_foreignCentsAlike_19 (by decide) (fun c_19 => ?_) (fun c_19 => ?_)
    · have hM := itT hM c_19
      refine lv_lload hx hb d_Parts_foreignCentsAlike_70 (lv_at hl 4 rfl) ?_
      have eo0 := Option.some.inj hM
      subst eo0
      exact rt_j S hr hlocks hP hD hS d_Parts_foreignCentsAlike_72
    · have hM := itF hM c_19
      refine lv_iload_n hx hb d_Parts_foreignCentsAlike_22 rfl (lv_at hl 1 rfl) ?_
      refine lv_aload_n hx hb d_Parts_foreignCentsAlike_23 rfl (lv_at hl 0 rfl) ?_
      refine va_get (D := D) (ci := 3) (v := .ref qPl) (C := R_Parts) (T := F_Parts) (N := 4) hx hb hts i_Parts hown hK hP 0 rfl rfl 1 (by decide) (hts _ iw_e4ab4480) (fun _ h9 => h9) rfl d_Parts_foreignCentsAlike_24 ?_
      refine lv_iload hx hb d_Parts_foreignCentsAlike_27 (lv_at hl 5 rfl) ?_
      obtain ⟨hin_29, hM⟩ := ixT hM
      refine va_iald hx hb hK hP 2 0 rfl rfl hin_29 d_Parts_foreignCentsAlike_29 ?_
      obtain ⟨r_30, hc_30, hM⟩ := bd1T hM
      refine ca_SN (As := [.int p1, .int (pld x7.toNatClampNeg)]) (rest := []) (wr := [(qP, .inr (3, [.ref qPc, .ref qPl, .ref qPv, .int psz])), (qPc, .inl (cT 0, 12, .inl pcd)), (qPl, .inl (cT 0, 12, .inl pld)), (qPv, .inl (cT 1, 12, .inr (.inl pct)))]) (w2 := [(qP, .inr (3, [.ref qPc, .ref qPl, .ref qPv, .int psz])), (qPc, .inl (cT 0, 12, .inl pcd)), (qPl, .inl (cT 0, 12, .inl pld)), (qPv, .inl (cT 1, 12, .inr (.inl pct)))]) S hE (c_Or_hasBit l D cT p1 (pld x7.toNatClampNeg) hc_30) gw_791aebbf rfl rfl ⟨Nat.le_of_ble_eq_true rfl, Nat.le_of_ble_eq_true rfl⟩ rfl hl.1 rfl (Nat.le_of_ble_eq_true rfl) d_Parts_foreignCentsAlike_30 ⟨Nat.zero_le _, Nat.zero_le _⟩ hP hD hS hA [] [0, 1, 2, 3] [0, 1, 2, 3] rfl rfl (by decide) (by decide) rfl (by decide) (by decide) (fun H locs hP hD hS => ?_)
      refine lv_if_ne (tgt := 64) hx hb d_Parts_foreignCentsAlike_33 (by decide) (fun c_33 => ?_) (fun c_33 => ?_)
      · have hM := itF hM c_33
        refine lv_iinc (v := x7 + 1) (lv' := [(7, .int (x7 + 1)), (0, .ref qP), (1, .int p1), (3, .int p3), (4, .int x4), (5, .long x5)]) hx hb d_Parts_foreignCentsAlike_64 hl (k := 5) rfl rfl (by decide) rfl (fun ls hl => ?_)
        refine lv_goto (tgt := 13) hx hb d_Parts_foreignCentsAlike_67 (by decide) ?_
        exact ih x4 x5 (x7 + 1) hM _ _ _ hP hD hS (lv_sub hl [1, 2, 3, 4, 5, 0] rfl)
      · have hM := itT hM c_33
        refine lv_aload_n hx hb d_Parts_foreignCentsAlike_36 rfl (lv_at hl 0 rfl) ?_
        refine va_get (D := D) (ci := 3) (v := .ref qPc) (C := R_Parts) (T := F_Parts) (N := 4) hx hb hts i_Parts hown hK hP 0 rfl rfl 0 (by decide) (hts _ iw_f06cb5b8) (fun _ h9 => h9) rfl d_Parts_foreignCentsAlike_37 ?_
        refine lv_iload hx hb d_Parts_foreignCentsAlike_40 (lv_at hl 5 rfl) ?_
        obtain ⟨hin_42, hM⟩ := ixT hM
        refine va_iald hx hb hK hP 1 0 rfl rfl hin_42 d_Parts_foreignCentsAlike_42 ?_
        refine lv_iload_n hx hb d_Parts_foreignCentsAlike_43 rfl (lv_at hl 2 rfl) ?_
        obtain ⟨r_44, hc_44, hM⟩ := bd1T hM
        refine ca_SN (As := [.int (pcd x7.toNatClampNeg), .int p3]) (rest := []) (wr := [(qP, .inr (3, [.ref qPc, .ref qPl, .ref qPv, .int psz])), (qPc, .inl (cT 0, 12, .inl pcd)), (qPl, .inl (cT 0, 12, .inl pld)), (qPv, .inl (cT 1, 12, .inr (.inl pct)))]) (w2 := [(qP, .inr (3, [.ref qPc, .ref qPl, .ref qPv, .int psz])), (qPc, .inl (cT 0, 12, .inl pcd)), (qPl, .inl (cT 0, 12, .inl pld)), (qPv, .inl (cT 1, 12, .inr (.inl pct)))]) S hE (c_Or_beginning l D cT (pcd x7.toNatClampNeg) p3 hc_44) gw_e3cd9dde rfl rfl ⟨Nat.le_of_ble_eq_true rfl, Nat.le_of_ble_eq_true rfl⟩ rfl hl.1 rfl (Nat.le_of_ble_eq_true rfl) d_Parts_foreignCentsAlike_44 ⟨Nat.zero_le _, Nat.zero_le _⟩ hP hD hS hA [] [0, 1, 2, 3] [0, 1, 2, 3] rfl rfl (by decide) (by decide) rfl (by decide) (by decide) (fun H locs hP hD hS => ?_)
        refine lv_iload hx hb d_Parts_foreignCentsAlike_47 (lv_at hl 3 rfl) ?_
        refine lv_icmp_ne (tgt := 64) hx hb d_Parts_foreignCentsAlike_49 (by decide) (fun c_49 => ?_) (fun c_49 => ?_)
        · have hM := itF hM c_49
          refine lv_iinc (v := x7 + 1) (lv' := [(7, .int (x7 + 1)), (0, .ref qP), (1, .int p1), (3, .int p3), (4, .int x4), (5, .long x5)]) hx hb d_Parts_foreignCentsAlike_64 hl (k := 5) rfl rfl (by decide) rfl (fun ls hl => ?_)
          refine lv_goto (tgt := 13) hx hb d_Parts_foreignCentsAlike_67 (by decide) ?_
          exact ih x4 x5 (x7 + 1) hM _ _ _ hP hD hS (lv_sub hl [1, 2, 3, 4, 5, 0] rfl)
        · have hM := itT hM c_49
          refine lv_lload hx hb d_Parts_foreignCentsAlike_52 (lv_at hl 4 rfl) ?_
          refine lv_aload_n hx hb d_Parts_foreignCentsAlike_54 rfl (lv_at hl 0 rfl) ?_
          refine va_get (D := D) (ci := 3) (v := .ref qPv) (C := R_Parts) (T := F_Parts) (N := 4) hx hb hts i_Parts hown hK hP 0 rfl rfl 2 (by decide) (hts _ iw_35ba64e4) (fun _ h9 => h9) rfl d_Parts_foreignCentsAlike_55 ?_
          refine lv_iload hx hb d_Parts_foreignCentsAlike_58 (lv_at hl 5 rfl) ?_
          obtain ⟨hin_60, hM⟩ := ixT hM
          refine va_lald hx hb hK hP 3 1 rfl rfl hin_60 d_Parts_foreignCentsAlike_60 ?_
          refine lv_ladd hx hb d_Parts_foreignCentsAlike_61 ?_
          refine lv_lstore (lv' := [(5, .long (x5 + (pct x7.toNatClampNeg))), (0, .ref qP), (1, .int p1), (3, .int p3), (4, .int x4), (7, .int x7)]) hx hb d_Parts_foreignCentsAlike_62 hl (by decide) rfl (fun ls hl => ?_)
          refine lv_iinc (v := x7 + 1) (lv' := [(7, .int (x7 + 1)), (5, .long (x5 + (pct x7.toNatClampNeg))), (0, .ref qP), (1, .int p1), (3, .int p3), (4, .int x4)]) hx hb d_Parts_foreignCentsAlike_64 hl (k := 5) rfl rfl (by decide) rfl (fun ls hl => ?_)
          refine lv_goto (tgt := 13) hx hb d_Parts_foreignCentsAlike_67 (by decide) ?_
          exact ih x4 (x5 + (pct x7.toNatClampNeg)) (x7 + 1) hM _ _ _ hP hD hS (lv_sub hl [2, 3, 4, 5, 1, 0] rfl)
set_option maxHeartbeats 4000000 in
set_option maxRecDepth 100000 in
theorem c_Parts_foreignCentsAlike (l : Launch) (D : va_G) (cT : Nat → ClassId) (qP : Nat) (qPc : Nat) (qPl : Nat) (qPv : Nat) (psz : Int32) (pcd : Nat → Int32) (pld : Nat → Int32) (pct : Nat → Int64) (p1 : Int32) (p2 : Int32) (p3 : Int32) {rr : Int64} (hM : m_Parts_foreignCentsAlike p1 p2 p3 psz pcd pld pct = some rr) : Ct l y_Parts_foreignCentsAlike (WS y_Parts_foreignCentsAlike b_Parts_foreignCentsAlike 8 (some .long)) rm_Parts_foreignCentsAlike D cT [.ref qP, .int p1, .int p2, .int p3] [(qP, .inr (3, [.ref qPc, .ref qPl, .ref qPv, .int psz])), (qPc, .inl (cT 0, 12, .inl pcd)), (qPl, .inl (cT 0, 12, .inl pld)), (qPv, .inl (cT 1, 12, .inr (.inl pct)))] (some (.long rr)) [(qP, .inr (3, [.ref qPc, .ref qPl, .ref qPv, .int psz])), (qPc, .inl (cT 0, 12, .inl pcd)), (qPl, .inl (cT 0, 12, .inl pld)), (qPv, .inl (cT 1, 12, .inr (.inl pct)))] 0 0 := by
  intro sz
  refine Met.ofW (cc := b_Parts_foreignCentsAlike) (maxL := 8) (ret := (some .long)) (by decide) rfl ?_
  intro p e s m args below meth c s₁ B hml hv
  obtain ⟨rfl, hsz, hP, hE, hD0⟩ := hv
  have hx := B.exec
  have hb := B.bytes
  have hr := B.returns
  have hts : ∀ w ∈ TB, w.before _ s = true := fun w h => atoms_spec (ws := WS y_Parts_foreignCentsAlike b_Parts_foreignCentsAlike 8 (some .long)) B.pre w (List.mem_cons_of_mem _ h)
  have hown : s.vm.findClass R_Parts = some m.cls := findClass_of_methodNamed B.named
  have hlocks := B.notSynchronized
  have hK := hE.1
  have hN := hE.2
  subst hsz
  have hD := hD0.self (sz := s.heap.size)
  generalize hAe : va_A [(qP, .inr (3, [.ref qPc, .ref qPl, .ref qPv, .int psz])), (qPc, .inl (cT 0, 12, .inl pcd)), (qPl, .inl (cT 0, 12, .inl pld)), (qPv, .inl (cT 1, 12, .inr (.inl pct)))] s.heap.size = A at hD ⊢
  have hA : ∀ q : Nat, s.heap.size ≤ q → A q := fun q h => by rw [← hAe]; exact Or.inr h
  have hS : va_S A s.heap s.heap [] := va_S.rf
  have hl := lv_entry ([.ref qP, .int p1, .int p2, .int p3]) (n := 8) (Nat.le_of_ble_eq_true rfl)
  rw [lg_entry_eq]
  generalize (lg_sl ([.ref qP, .int p1, .int p2, .int p3]) ++ List.replicate (8 - (lg_sl ([.ref qP, .int p1, .int p2, .int p3])).length) Slot.unset).toArray = ls at hl ⊢
  have hl : lv_has ls 8 [(0, .ref qP), (1, .int p1), (2, .int p2), (3, .int p3)] := hl
  have S : CallFix p m c b_Parts_foreignCentsAlike 8 s _ TB R_Parts := ⟨hx, hb, hml, hown, hts⟩
  unfold m_Parts_foreignCentsAlike at hM
  refine lv_iload_n hx hb d_Parts_foreignCentsAlike_0 rfl (lv_at hl 2 rfl) ?_
  refine lv_iload_n hx hb d_Parts_foreignCentsAlike_1 rfl (lv_at hl 3 rfl) ?_
  obtain ⟨r_2, hc_2, hM⟩ := bd1T hM
  refine ca_SN (As := [.int p2, .int p3]) (rest := []) (wr := [(qP, .inr (3, [.ref qPc, .ref qPl, .ref qPv, .int psz])), (qPc, .inl (cT 0, 12, .inl pcd)), (qPl, .inl (cT 0, 12, .inl pld)), (qPv, .inl (cT 1, 12, .inr (.inl pct)))]) (w2 := [(qP, .inr (3, [.ref qPc, .ref qPl, .ref qPv, .int psz])), (qPc, .inl (cT 0, 12, .inl pcd)), (qPl, .inl (cT 0, 12, .inl pld)), (qPv, .inl (cT 1, 12, .inr (.inl pct)))]) S hE (c_Or_beginning l D cT p2 p3 hc_2) gw_e3cd9dde rfl rfl ⟨Nat.le_of_ble_eq_true rfl, Nat.le_of_ble_eq_true rfl⟩ rfl hl.1 rfl (Nat.le_of_ble_eq_true rfl) d_Parts_foreignCentsAlike_2 ⟨Nat.zero_le _, Nat.zero_le _⟩ hP hD hS hA [] [0, 1, 2, 3] [0, 1, 2, 3] rfl rfl (by decide) (by decide) rfl (by decide) (by decide) (fun H locs hP hD hS => ?_)
  refine lv_istore (lv' := [(4, .int r_2), (0, .ref qP), (1, .int p1), (2, .int p2), (3, .int p3)]) hx hb d_Parts_foreignCentsAlike_5 hl (by decide) rfl (fun ls hl => ?_)
  refine lv_lconst (v := 0) hx hb d_Parts_foreignCentsAlike_7 (by decide) ?_
  refine lv_lstore (lv' := [(5, .long 0), (4, .int r_2), (0, .ref qP), (1, .int p1), (2, .int p2), (3, .int p3)]) hx hb d_Parts_foreignCentsAlike_8 hl (by decide) rfl (fun ls hl => ?_)
  refine lv_iconst (v := 0) hx hb d_Parts_foreignCentsAlike_10 (by decide) ?_
  refine lv_istore (lv' := [(7, .int 0), (5, .long 0), (4, .int r_2), (0, .ref qP), (1, .int p1), (2, .int p2), (3, .int p3)]) hx hb d_Parts_foreignCentsAlike_11 hl (by decide) rfl (fun ls hl => ?_)
  exact w_Parts_foreignCentsAlike_13 S hr hlocks hE hA 2000 r_2 0 0 hM _ _ _ hP hD hS (lv_sub hl [3, 4, 6, 2, 1, 0] rfl)
def rm_Lands_addPair : Room := { frames := 1, cells := 0, slots := 0, locals := 21 }
set_option maxHeartbeats 4000000 in
set_option maxRecDepth 100000 in
theorem c_Lands_addPair (l : Launch) (D : va_G) (cT : Nat → ClassId) (qL : Nat) (qLj : Nat) (lpr : Int32) (lful : Bool) (ljn : Nat → Int32) (p1 : Int32) (p2 : Int32) {rr : Bool} {o_lpr : Int32} {o_ljn : Nat → Int32} (hM : m_Lands_addPair p1 p2 lpr ljn = some (rr, o_lpr, o_ljn)) : Ct l y_Lands_addPair (WS y_Lands_addPair b_Lands_addPair 3 (some .boolean)) rm_Lands_addPair D cT [.ref qL, .int p1, .int p2] [(qL, .inr (4, [.ref qLj, .int lpr, .int (bI lful)])), (qLj, .inl (cT 0, 10, .inl ljn))] (some (.int (bI rr))) [(qL, .inr (4, [.ref qLj, .int o_lpr, .int (bI lful)])), (qLj, .inl (cT 0, 10, .inl o_ljn))] 0 0 := by
  intro sz
  refine Met.ofW (cc := b_Lands_addPair) (maxL := 3) (ret := (some .boolean)) (by decide) rfl ?_
  intro p e s m args below meth c s₁ B hml hv
  obtain ⟨rfl, hsz, hP, hE, hD0⟩ := hv
  have hx := B.exec
  have hb := B.bytes
  have hr := B.returns
  have hts : ∀ w ∈ TB, w.before _ s = true := fun w h => atoms_spec (ws := WS y_Lands_addPair b_Lands_addPair 3 (some .boolean)) B.pre w (List.mem_cons_of_mem _ h)
  have hown : s.vm.findClass R_Lands = some m.cls := findClass_of_methodNamed B.named
  have hlocks := B.notSynchronized
  have hK := hE.1
  have hN := hE.2
  subst hsz
  have hD := hD0.self (sz := s.heap.size)
  generalize hAe : va_A [(qL, .inr (4, [.ref qLj, .int lpr, .int (bI lful)])), (qLj, .inl (cT 0, 10, .inl ljn))] s.heap.size = A at hD ⊢
  have hA : ∀ q : Nat, s.heap.size ≤ q → A q := fun q h => by rw [← hAe]; exact Or.inr h
  have hS : va_S A s.heap s.heap [] := va_S.rf
  have hl := lv_entry ([.ref qL, .int p1, .int p2]) (n := 3) (Nat.le_of_ble_eq_true rfl)
  rw [lg_entry_eq]
  generalize (lg_sl ([.ref qL, .int p1, .int p2]) ++ List.replicate (3 - (lg_sl ([.ref qL, .int p1, .int p2])).length) Slot.unset).toArray = ls at hl ⊢
  have hl : lv_has ls 3 [(0, .ref qL), (1, .int p1), (2, .int p2)] := hl
  have S : CallFix p m c b_Lands_addPair 3 s _ TB R_Lands := ⟨hx, hb, hml, hown, hts⟩
  unfold m_Lands_addPair at hM
  refine lv_aload_n hx hb d_Lands_addPair_0 rfl (lv_at hl 0 rfl) ?_
  refine va_get (D := D) (ci := 4) (v := .ref qLj) (C := R_Lands) (T := F_Lands) (N := 3) hx hb hts i_Lands hown hK hP 0 rfl rfl 0 (by decide) (hts _ iw_afbce97e) (fun _ h9 => h9) rfl d_Lands_addPair_1 ?_
  refine lv_iload_n hx hb d_Lands_addPair_4 rfl (lv_at hl 1 rfl) ?_
  obtain ⟨hin_5, hM⟩ := ixT hM
  refine va_iald hx hb hK hP 1 0 rfl rfl hin_5 d_Lands_addPair_5 ?_
  refine lv_iload_n hx hb d_Lands_addPair_6 rfl (lv_at hl 2 rfl) ?_
  obtain ⟨r_7, hc_7, hM⟩ := bd1T hM
  refine ca_SN (As := [.int (ljn p1.toNatClampNeg), .int p2]) (rest := []) (wr := [(qL, .inr (4, [.ref qLj, .int lpr, .int (bI lful)])), (qLj, .inl (cT 0, 10, .inl ljn))]) (w2 := [(qL, .inr (4, [.ref qLj, .int lpr, .int (bI lful)])), (qLj, .inl (cT 0, 10, .inl ljn))]) S hE (c_Or_hasBit l D cT (ljn p1.toNatClampNeg) p2 hc_7) gw_2d3f3edb rfl rfl ⟨Nat.le_of_ble_eq_true rfl, Nat.le_of_ble_eq_true rfl⟩ rfl hl.1 rfl (Nat.le_of_ble_eq_true rfl) d_Lands_addPair_7 ⟨Nat.zero_le _, Nat.zero_le _⟩ hP hD hS hA [] [0, 1] [0, 1] rfl rfl (by decide) (by decide) rfl (by decide) (by decide) (fun H locs hP hD hS => ?_)
  refine lv_if_eq (tgt := 15) hx hb d_Lands_addPair_10 (by decide) (fun c_10 => ?_) (fun c_10 => ?_)
  · have hM := itT hM c_10
    refine lv_aload_n hx hb d_Lands_addPair_15 rfl (lv_at hl 0 rfl) ?_
    refine va_get (D := D) (ci := 4) (v := .ref qLj) (C := R_Lands) (T := F_Lands) (N := 3) hx hb hts i_Lands hown hK hP 0 rfl rfl 0 (by decide) (hts _ iw_afbce97e) (fun _ h9 => h9) rfl d_Lands_addPair_16 ?_
    refine lv_iload_n hx hb d_Lands_addPair_19 rfl (lv_at hl 1 rfl) ?_
    refine lv_dup2_11 hx hb d_Lands_addPair_20 rfl rfl ?_
    obtain ⟨hin_21, hM⟩ := ixT hM
    refine va_iald hx hb hK hP 1 0 rfl rfl hin_21 d_Lands_addPair_21 ?_
    refine lv_iconst (v := 1) hx hb d_Lands_addPair_22 (by decide) ?_
    refine lv_iload_n hx hb d_Lands_addPair_23 rfl (lv_at hl 2 rfl) ?_
    refine lv_ishl hx hb d_Lands_addPair_24 ?_
    refine lv_ior hx hb d_Lands_addPair_25 ?_
    obtain ⟨hin_26, hM⟩ := ixT hM
    refine va_iast hx hb hK hP hD hS 1 0 rfl rfl hin_26 d_Lands_addPair_26 (fun H locs hP hD hS => ?_)
    have hP : va_P D classes [(qL, .inr (4, [.ref qLj, .int lpr, .int (bI lful)])), (qLj, .inl (cT 0, 10, .inl (upd ljn p1.toNatClampNeg ((ljn p1.toNatClampNeg) ||| (1 <<< (p2 &&& 31))))))] H := hP
    have hD : va_D A [(qL, .inr (4, [.ref qLj, .int lpr, .int (bI lful)])), (qLj, .inl (cT 0, 10, .inl (upd ljn p1.toNatClampNeg ((ljn p1.toNatClampNeg) ||| (1 <<< (p2 &&& 31))))))] := hD
    refine lv_aload_n hx hb d_Lands_addPair_27 rfl (lv_at hl 0 rfl) ?_
    refine va_get (D := D) (ci := 4) (v := .ref qLj) (C := R_Lands) (T := F_Lands) (N := 3) hx hb hts i_Lands hown hK hP 0 rfl rfl 0 (by decide) (hts _ iw_afbce97e) (fun _ h9 => h9) rfl d_Lands_addPair_28 ?_
    refine lv_iload_n hx hb d_Lands_addPair_31 rfl (lv_at hl 2 rfl) ?_
    refine lv_dup2_11 hx hb d_Lands_addPair_32 rfl rfl ?_
    obtain ⟨hin_33, hM⟩ := ixT hM
    refine va_iald hx hb hK hP 1 0 rfl rfl hin_33 d_Lands_addPair_33 ?_
    refine lv_iconst (v := 1) hx hb d_Lands_addPair_34 (by decide) ?_
    refine lv_iload_n hx hb d_Lands_addPair_35 rfl (lv_at hl 1 rfl) ?_
    refine lv_ishl hx hb d_Lands_addPair_36 ?_
    refine lv_ior hx hb d_Lands_addPair_37 ?_
    obtain ⟨hin_38, hM⟩ := ixT hM
    refine va_iast hx hb hK hP hD hS 1 0 rfl rfl hin_38 d_Lands_addPair_38 (fun H locs hP hD hS => ?_)
    have hP : va_P D classes [(qL, .inr (4, [.ref qLj, .int lpr, .int (bI lful)])), (qLj, .inl (cT 0, 10, .inl (upd (upd ljn p1.toNatClampNeg ((ljn p1.toNatClampNeg) ||| (1 <<< (p2 &&& 31)))) p2.toNatClampNeg (((upd ljn p1.toNatClampNeg ((ljn p1.toNatClampNeg) ||| (1 <<< (p2 &&& 31)))) p2.toNatClampNeg) ||| (1 <<< (p1 &&& 31))))))] H := hP
    have hD : va_D A [(qL, .inr (4, [.ref qLj, .int lpr, .int (bI lful)])), (qLj, .inl (cT 0, 10, .inl (upd (upd ljn p1.toNatClampNeg ((ljn p1.toNatClampNeg) ||| (1 <<< (p2 &&& 31)))) p2.toNatClampNeg (((upd ljn p1.toNatClampNeg ((ljn p1.toNatClampNeg) ||| (1 <<< (p2 &&& 31)))) p2.toNatClampNeg) ||| (1 <<< (p1 &&& 31))))))] := hD
    refine lv_aload_n hx hb d_Lands_addPair_39 rfl (lv_at hl 0 rfl) ?_
    refine lv_dup hx hb d_Lands_addPair_40 rfl ?_
    refine va_get (D := D) (ci := 4) (v := .int lpr) (C := R_Lands) (T := F_Lands) (N := 3) hx hb hts i_Lands hown hK hP 0 rfl rfl 1 (by decide) (hts _ iw_6dc4242d) (fun _ h9 => h9) rfl d_Lands_addPair_41 ?_
    refine lv_iconst (v := 1) hx hb d_Lands_addPair_44 (by decide) ?_
    refine lv_iadd hx hb d_Lands_addPair_45 ?_
    refine va_put (D := D) (ci := 4) (v := .int (lpr + 1)) (ty := .int) (C := R_Lands) (T := F_Lands) (N := 3) hx hb hts i_Lands t_Lands t_Lands_ok n_Lands hown hK hP hD hS 0 rfl rfl 1 (by decide) (hts _ iw_6dc4242d) (fun _ h9 => h9) rfl (by decide +kernel) rfl rfl (Nat.le_of_ble_eq_true rfl) d_Lands_addPair_46 (fun H locs hP hD hS => ?_)
    have hP : va_P D classes [(qL, .inr (4, [.ref qLj, .int (lpr + 1), .int (bI lful)])), (qLj, .inl (cT 0, 10, .inl (upd (upd ljn p1.toNatClampNeg ((ljn p1.toNatClampNeg) ||| (1 <<< (p2 &&& 31)))) p2.toNatClampNeg (((upd ljn p1.toNatClampNeg ((ljn p1.toNatClampNeg) ||| (1 <<< (p2 &&& 31)))) p2.toNatClampNeg) ||| (1 <<< (p1 &&& 31))))))] H := hP
    have hD : va_D A [(qL, .inr (4, [.ref qLj, .int (lpr + 1), .int (bI lful)])), (qLj, .inl (cT 0, 10, .inl (upd (upd ljn p1.toNatClampNeg ((ljn p1.toNatClampNeg) ||| (1 <<< (p2 &&& 31)))) p2.toNatClampNeg (((upd ljn p1.toNatClampNeg ((ljn p1.toNatClampNeg) ||| (1 <<< (p2 &&& 31)))) p2.toNatClampNeg) ||| (1 <<< (p1 &&& 31))))))] := hD
    refine lv_iconst (v := 1) hx hb d_Lands_addPair_49 (by decide) ?_
    obtain ⟨eo0, eo1, eo2⟩ := so3T hM
    subst eo0
    subst eo1
    subst eo2
    exact rt_z S hr hlocks hP hD hS d_Lands_addPair_50
  · have hM := itF hM c_10
    refine lv_iconst (v := 0) hx hb d_Lands_addPair_13 (by decide) ?_
    obtain ⟨eo0, eo1, eo2⟩ := so3T hM
    subst eo0
    subst eo1
    subst eo2
    exact rt_z S hr hlocks hP hD hS d_Lands_addPair_14
def rm_Lands_ownLands : Room := { frames := 1, cells := 0, slots := 0, locals := 21 }
set_option maxHeartbeats 4000000 in
set_option maxRecDepth 100000 in
theorem w_Lands_ownLands_26 {p : Program} {l : Launch} {e : Env} {s : State} {m : MethodId} {args : Array Value} {below : List Frame} {meth : Method} {c : Code} {D : va_G} {cT : Nat → ClassId} {A : Nat → Prop} (S : CallFix p m c b_Lands_ownLands 4 s args TB R_Lands) (hr : meth.sig.returnType = (some .int)) (hlocks : meth.locks = false) (hE : EN D cT s) (hA : ∀ q, s.heap.size ≤ q → A q) {qL : Nat} {qLj : Nat} {lpr : Int32} {lful : Bool} {ljn : Nat → Int32} {rr : Int32} {Ko11 : Int32 → Int32 → Option Int32} (hKo11 : ∀ (x1 : Int32) (x2 : Int32), Ko11 x1 x2 = some rr → ∀ (H : Heap) (locs : List Loc) (ls : Array Slot), va_P D classes [(qL, .inr (4, [.ref qLj, .int lpr, .int (bI lful)])), (qLj, .inl (cT 0, 10, .inl ljn))] H → va_D A [(qL, .inr (4, [.ref qLj, .int lpr, .int (bI lful)])), (qLj, .inl (cT 0, 10, .inl ljn))] → va_S A s.heap H locs → lv_has ls 4 [(0, .ref qL), (1, .int x1), (2, .int x2)] → W p l e (headSpec (WS y_Lands_ownLands b_Lands_ownLands 4 (some .int)) rm_Lands_ownLands).room s m args below meth c H locs 0 0 (MQ below (qW D A [(qL, .inr (4, [.ref qLj, .int lpr, .int (bI lful)])), (qLj, .inl (cT 0, 10, .inl ljn))] (some (.int rr))) args s 0 0 A) (F0 m 11 ls [])) : ∀ (n : Nat) (x1 : Int32) (x2 : Int32) (x3 : Int32), k_Lands_ownLands_26 lful ljn Ko11 n x1 x2 x3 = some rr → ∀ (H : Heap) (locs : List Loc) (ls : Array Slot), va_P D classes [(qL, .inr (4, [.ref qLj, .int lpr, .int (bI lful)])), (qLj, .inl (cT 0, 10, .inl ljn))] H → va_D A [(qL, .inr (4, [.ref qLj, .int lpr, .int (bI lful)])), (qLj, .inl (cT 0, 10, .inl ljn))] → va_S A s.heap H locs → lv_has ls 4 [(0, .ref qL), (1, .int x1), (2, .int x2), (3, .int x3)] → W p l e (headSpec (WS y_Lands_ownLands b_Lands_ownLands 4 (some .int)) rm_Lands_ownLands).room s m args below meth c H locs 0 0 (MQ below (qW D A [(qL, .inr (4, [.ref qLj, .int lpr, .int (bI lful)])), (qLj, .inl (cT 0, 10, .inl ljn))] (some (.int rr))) args s 0 0 A) (F0 m 26 ls []) := by
  obtain ⟨hx, hb, hml, hown, hts⟩ := id S
  have hK := hE.1
  have hN := hE.2
  intro n
  induction n with
  | zero =>
    intro x1 x2 x3 hM
    rw [k_Lands_ownLands_26_z] at hM
    cases hM
  | succ n ih =>
    intro x1 x2 x3 hM H locs ls hP hD hS hl
    rw [k_Lands_ownLands_26_s] at hM
    refine lv_iload_n hx hb d_Lands_ownLands_26 rfl (lv_at hl 3 rfl) ?_
    refine lv_bipush (v := 10) hx hb d_Lands_ownLands_27 (by decide) ?_
    refine lv_icmp_ge (tgt := 55) hx hb d_Lands_ownLands_29 (by decide) (fun c_29 => ?_) (fun c_29 => ?_)
    · have hM := itT hM c_29
      refine lv_iinc (v := x2 + 1) (lv' := [(2, .int (x2 + 1)), (0, .ref qL), (1, .int x1), (3, .int x3)]) hx hb d_Lands_ownLands_55 hl (k := 2) rfl rfl (by decide) rfl (fun ls hl => ?_)
      refine lv_goto (tgt := 11) hx hb d_Lands_ownLands_58 (by decide) ?_
      exact hKo11 x1 (x2 + 1) hM _ _ _ hP hD hS (lv_sub hl [1, 2, 0] rfl)
    · have hM := itF hM c_29
      refine lv_iload_n hx hb d_Lands_ownLands_32 rfl (lv_at hl 1 rfl) ?_
      refine lv_iload_n hx hb d_Lands_ownLands_33 rfl (lv_at hl 3 rfl) ?_
      obtain ⟨r_34, hc_34, hM⟩ := bd1T hM
      refine ca_SN (As := [.int x1, .int x3]) (rest := []) (wr := [(qL, .inr (4, [.ref qLj, .int lpr, .int (bI lful)])), (qLj, .inl (cT 0, 10, .inl ljn))]) (w2 := [(qL, .inr (4, [.ref qLj, .int lpr, .int (bI lful)])), (qLj, .inl (cT 0, 10, .inl ljn))]) S hE (c_Or_hasBit l D cT x1 x3 hc_34) gw_2d3f3edb rfl rfl ⟨Nat.le_of_ble_eq_true rfl, Nat.le_of_ble_eq_true rfl⟩ rfl hl.1 rfl (Nat.le_of_ble_eq_true rfl) d_Lands_ownLands_34 ⟨Nat.zero_le _, Nat.zero_le _⟩ hP hD hS hA [] [0, 1] [0, 1] rfl rfl (by decide) (by decide) rfl (by decide) (by decide) (fun H locs hP hD hS => ?_)
      refine lv_if_eq (tgt := 49) hx hb d_Lands_ownLands_37 (by decide) (fun c_37 => ?_) (fun c_37 => ?_)
      · have hM := itT hM c_37
        refine lv_iinc (v := x3 + 1) (lv' := [(3, .int (x3 + 1)), (0, .ref qL), (1, .int x1), (2, .int x2)]) hx hb d_Lands_ownLands_49 hl (k := 3) rfl rfl (by decide) rfl (fun ls hl => ?_)
        refine lv_goto (tgt := 26) hx hb d_Lands_ownLands_52 (by decide) ?_
        exact ih x1 x2 (x3 + 1) hM _ _ _ hP hD hS (lv_sub hl [1, 2, 3, 0] rfl)
      · have hM := itF hM c_37
        refine lv_iload_n hx hb d_Lands_ownLands_40 rfl (lv_at hl 1 rfl) ?_
        refine lv_aload_n hx hb d_Lands_ownLands_41 rfl (lv_at hl 0 rfl) ?_
        refine va_get (D := D) (ci := 4) (v := .ref qLj) (C := R_Lands) (T := F_Lands) (N := 3) hx hb hts i_Lands hown hK hP 0 rfl rfl 0 (by decide) (hts _ iw_afbce97e) (fun _ h9 => h9) rfl d_Lands_ownLands_42 ?_
        refine lv_iload_n hx hb d_Lands_ownLands_45 rfl (lv_at hl 3 rfl) ?_
        obtain ⟨hin_46, hM⟩ := ixT hM
        refine va_iald hx hb hK hP 1 0 rfl rfl hin_46 d_Lands_ownLands_46 ?_
        refine lv_ior hx hb d_Lands_ownLands_47 ?_
        refine lv_istore_n (lv' := [(1, .int (x1 ||| (ljn x3.toNatClampNeg))), (0, .ref qL), (2, .int x2), (3, .int x3)]) hx hb d_Lands_ownLands_48 rfl hl (by decide) rfl (fun ls hl => ?_)
        refine lv_iinc (v := x3 + 1) (lv' := [(3, .int (x3 + 1)), (1, .int (x1 ||| (ljn x3.toNatClampNeg))), (0, .ref qL), (2, .int x2)]) hx hb d_Lands_ownLands_49 hl (k := 3) rfl rfl (by decide) rfl (fun ls hl => ?_)
        refine lv_goto (tgt := 26) hx hb d_Lands_ownLands_52 (by decide) ?_
        exact ih (x1 ||| (ljn x3.toNatClampNeg)) x2 (x3 + 1) hM _ _ _ hP hD hS (lv_sub hl [2, 1, 3, 0] rfl)
set_option maxHeartbeats 4000000 in
set_option maxRecDepth 100000 in
theorem w_Lands_ownLands_11 {p : Program} {l : Launch} {e : Env} {s : State} {m : MethodId} {args : Array Value} {below : List Frame} {meth : Method} {c : Code} {D : va_G} {cT : Nat → ClassId} {A : Nat → Prop} (S : CallFix p m c b_Lands_ownLands 4 s args TB R_Lands) (hr : meth.sig.returnType = (some .int)) (hlocks : meth.locks = false) (hE : EN D cT s) (hA : ∀ q, s.heap.size ≤ q → A q) {qL : Nat} {qLj : Nat} {lpr : Int32} {lful : Bool} {ljn : Nat → Int32} {rr : Int32} : ∀ (n : Nat) (x1 : Int32) (x2 : Int32), k_Lands_ownLands_11 lful ljn  n x1 x2 = some rr → ∀ (H : Heap) (locs : List Loc) (ls : Array Slot), va_P D classes [(qL, .inr (4, [.ref qLj, .int lpr, .int (bI lful)])), (qLj, .inl (cT 0, 10, .inl ljn))] H → va_D A [(qL, .inr (4, [.ref qLj, .int lpr, .int (bI lful)])), (qLj, .inl (cT 0, 10, .inl ljn))] → va_S A s.heap H locs → lv_has ls 4 [(0, .ref qL), (1, .int x1), (2, .int x2)] → W p l e (headSpec (WS y_Lands_ownLands b_Lands_ownLands 4 (some .int)) rm_Lands_ownLands).room s m args below meth c H locs 0 0 (MQ below (qW D A [(qL, .inr (4, [.ref qLj, .int lpr, .int (bI lful)])), (qLj, .inl (cT 0, 10, .inl ljn))] (some (.int rr))) args s 0 0 A) (F0 m 11 ls []) := by
  obtain ⟨hx, hb, hml, hown, hts⟩ := id S
  have hK := hE.1
  have hN := hE.2
  intro n
  induction n with
  | zero =>
    intro x1 x2 hM
    rw [k_Lands_ownLands_11_z] at hM
    cases hM
  | succ n ih =>
    intro x1 x2 hM H locs ls hP hD hS hl
    rw [k_Lands_ownLands_11_s] at hM
    refine lv_aload_n hx hb d_Lands_ownLands_11 rfl (lv_at hl 0 rfl) ?_
    refine va_get (D := D) (ci := 4) (v := .int (bI lful)) (C := R_Lands) (T := F_Lands) (N := 3) hx hb hts i_Lands hown hK hP 0 rfl rfl 2 (by decide) (hts _ iw_983c19f6) (fun _ h9 => h9) rfl d_Lands_ownLands_12 ?_
    refine lv_if_eq (tgt := 61) hx hb d_Lands_ownLands_15 (by decide) (fun c_15 => ?_) (fun c_15 => ?_)
    · have hM := itT hM c_15
      refine lv_iload_n hx hb d_Lands_ownLands_61 rfl (lv_at hl 1 rfl) ?_
      have eo0 := Option.some.inj hM
      subst eo0
      exact rt_i S hr hlocks hP hD hS d_Lands_ownLands_62
    · have hM := itF hM c_15
      refine lv_iload_n hx hb d_Lands_ownLands_18 rfl (lv_at hl 2 rfl) ?_
      refine lv_bipush (v := 10) hx hb d_Lands_ownLands_19 (by decide) ?_
      refine lv_icmp_ge (tgt := 61) hx hb d_Lands_ownLands_21 (by decide) (fun c_21 => ?_) (fun c_21 => ?_)
      · have hM := itT hM c_21
        refine lv_iload_n hx hb d_Lands_ownLands_61 rfl (lv_at hl 1 rfl) ?_
        have eo0 := Option.some.inj hM
        subst eo0
        exact rt_i S hr hlocks hP hD hS d_Lands_ownLands_62
      · have hM := itF hM c_21
        refine lv_iconst (v := 0) hx hb d_Lands_ownLands_24 (by decide) ?_
        refine lv_istore_n (lv' := [(3, .int 0), (0, .ref qL), (1, .int x1), (2, .int x2)]) hx hb d_Lands_ownLands_25 rfl hl (by decide) rfl (fun ls hl => ?_)
        exact w_Lands_ownLands_26 S hr hlocks hE hA (ih) 2000 x1 x2 0 hM _ _ _ hP hD hS (lv_sub hl [1, 2, 3, 0] rfl)
set_option maxHeartbeats 4000000 in
set_option maxRecDepth 100000 in
theorem c_Lands_ownLands (l : Launch) (D : va_G) (cT : Nat → ClassId) (qL : Nat) (qLj : Nat) (lpr : Int32) (lful : Bool) (ljn : Nat → Int32) {rr : Int32} (hM : m_Lands_ownLands lful ljn = some rr) : Ct l y_Lands_ownLands (WS y_Lands_ownLands b_Lands_ownLands 4 (some .int)) rm_Lands_ownLands D cT [.ref qL] [(qL, .inr (4, [.ref qLj, .int lpr, .int (bI lful)])), (qLj, .inl (cT 0, 10, .inl ljn))] (some (.int rr)) [(qL, .inr (4, [.ref qLj, .int lpr, .int (bI lful)])), (qLj, .inl (cT 0, 10, .inl ljn))] 0 0 := by
  intro sz
  refine Met.ofW (cc := b_Lands_ownLands) (maxL := 4) (ret := (some .int)) (by decide) rfl ?_
  intro p e s m args below meth c s₁ B hml hv
  obtain ⟨rfl, hsz, hP, hE, hD0⟩ := hv
  have hx := B.exec
  have hb := B.bytes
  have hr := B.returns
  have hts : ∀ w ∈ TB, w.before _ s = true := fun w h => atoms_spec (ws := WS y_Lands_ownLands b_Lands_ownLands 4 (some .int)) B.pre w (List.mem_cons_of_mem _ h)
  have hown : s.vm.findClass R_Lands = some m.cls := findClass_of_methodNamed B.named
  have hlocks := B.notSynchronized
  have hK := hE.1
  have hN := hE.2
  subst hsz
  have hD := hD0.self (sz := s.heap.size)
  generalize hAe : va_A [(qL, .inr (4, [.ref qLj, .int lpr, .int (bI lful)])), (qLj, .inl (cT 0, 10, .inl ljn))] s.heap.size = A at hD ⊢
  have hA : ∀ q : Nat, s.heap.size ≤ q → A q := fun q h => by rw [← hAe]; exact Or.inr h
  have hS : va_S A s.heap s.heap [] := va_S.rf
  have hl := lv_entry ([.ref qL]) (n := 4) (Nat.le_of_ble_eq_true rfl)
  rw [lg_entry_eq]
  generalize (lg_sl ([.ref qL]) ++ List.replicate (4 - (lg_sl ([.ref qL])).length) Slot.unset).toArray = ls at hl ⊢
  have hl : lv_has ls 4 [(0, .ref qL)] := hl
  have S : CallFix p m c b_Lands_ownLands 4 s _ TB R_Lands := ⟨hx, hb, hml, hown, hts⟩
  unfold m_Lands_ownLands at hM
  refine lv_iconst (v := 1) hx hb d_Lands_ownLands_0 (by decide) ?_
  refine lv_aload_n hx hb d_Lands_ownLands_1 rfl (lv_at hl 0 rfl) ?_
  refine va_get (D := D) (ci := 4) (v := .ref qLj) (C := R_Lands) (T := F_Lands) (N := 3) hx hb hts i_Lands hown hK hP 0 rfl rfl 0 (by decide) (hts _ iw_afbce97e) (fun _ h9 => h9) rfl d_Lands_ownLands_2 ?_
  refine lv_iconst (v := 0) hx hb d_Lands_ownLands_5 (by decide) ?_
  obtain ⟨hin_6, hM⟩ := ixT hM
  refine va_iald hx hb hK hP 1 0 rfl rfl hin_6 d_Lands_ownLands_6 ?_
  refine lv_ior hx hb d_Lands_ownLands_7 ?_
  refine lv_istore_n (lv' := [(1, .int (1 ||| (ljn (0 : Int32).toNatClampNeg))), (0, .ref qL)]) hx hb d_Lands_ownLands_8 rfl hl (by decide) rfl (fun ls hl => ?_)
  refine lv_iconst (v := 0) hx hb d_Lands_ownLands_9 (by decide) ?_
  refine lv_istore_n (lv' := [(2, .int 0), (1, .int (1 ||| (ljn (0 : Int32).toNatClampNeg))), (0, .ref qL)]) hx hb d_Lands_ownLands_10 rfl hl (by decide) rfl (fun ls hl => ?_)
  exact w_Lands_ownLands_11 S hr hlocks hE hA 2000 (1 ||| (ljn (0 : Int32).toNatClampNeg)) 0 hM _ _ _ hP hD hS (lv_sub hl [2, 1, 0] rfl)
def rm_Proofs_add : Room := { frames := 0, cells := 0, slots := 0, locals := 0 }
set_option maxHeartbeats 4000000 in
set_option maxRecDepth 100000 in
theorem c_Proofs_add (l : Launch) (D : va_G) (cT : Nat → ClassId) (qF : Nat) (qFk : Nat) (qFf : Nat) (qFl : Nat) (fsz : Int32) (fkd : Nat → Int32) (ffr : Nat → Int32) (fto : Nat → Int32) (p1 : Int32) (p2 : Int32) (p3 : Int32) {rr : Int32} {o_fsz : Int32} {o_fkd : Nat → Int32} {o_ffr : Nat → Int32} {o_fto : Nat → Int32} (hM : m_Proofs_add p1 p2 p3 fsz fkd ffr fto = some (rr, o_fsz, o_fkd, o_ffr, o_fto)) : Ct l y_Proofs_add (WS y_Proofs_add b_Proofs_add 4 (some .int)) rm_Proofs_add D cT [.ref qF, .int p1, .int p2, .int p3] [(qF, .inr (5, [.ref qFk, .ref qFf, .ref qFl, .int fsz])), (qFk, .inl (cT 0, 20, .inl fkd)), (qFf, .inl (cT 0, 20, .inl ffr)), (qFl, .inl (cT 0, 20, .inl fto))] (some (.int rr)) [(qF, .inr (5, [.ref qFk, .ref qFf, .ref qFl, .int o_fsz])), (qFk, .inl (cT 0, 20, .inl o_fkd)), (qFf, .inl (cT 0, 20, .inl o_ffr)), (qFl, .inl (cT 0, 20, .inl o_fto))] 0 0 := by
  intro sz
  refine Met.ofW (cc := b_Proofs_add) (maxL := 4) (ret := (some .int)) (by decide) rfl ?_
  intro p e s m args below meth c s₁ B hml hv
  obtain ⟨rfl, hsz, hP, hE, hD0⟩ := hv
  have hx := B.exec
  have hb := B.bytes
  have hr := B.returns
  have hts : ∀ w ∈ TB, w.before _ s = true := fun w h => atoms_spec (ws := WS y_Proofs_add b_Proofs_add 4 (some .int)) B.pre w (List.mem_cons_of_mem _ h)
  have hown : s.vm.findClass R_Proofs = some m.cls := findClass_of_methodNamed B.named
  have hlocks := B.notSynchronized
  have hK := hE.1
  have hN := hE.2
  subst hsz
  have hD := hD0.self (sz := s.heap.size)
  generalize hAe : va_A [(qF, .inr (5, [.ref qFk, .ref qFf, .ref qFl, .int fsz])), (qFk, .inl (cT 0, 20, .inl fkd)), (qFf, .inl (cT 0, 20, .inl ffr)), (qFl, .inl (cT 0, 20, .inl fto))] s.heap.size = A at hD ⊢
  have hA : ∀ q : Nat, s.heap.size ≤ q → A q := fun q h => by rw [← hAe]; exact Or.inr h
  have hS : va_S A s.heap s.heap [] := va_S.rf
  have hl := lv_entry ([.ref qF, .int p1, .int p2, .int p3]) (n := 4) (Nat.le_of_ble_eq_true rfl)
  rw [lg_entry_eq]
  generalize (lg_sl ([.ref qF, .int p1, .int p2, .int p3]) ++ List.replicate (4 - (lg_sl ([.ref qF, .int p1, .int p2, .int p3])).length) Slot.unset).toArray = ls at hl ⊢
  have hl : lv_has ls 4 [(0, .ref qF), (1, .int p1), (2, .int p2), (3, .int p3)] := hl
  have S : CallFix p m c b_Proofs_add 4 s _ TB R_Proofs := ⟨hx, hb, hml, hown, hts⟩
  unfold m_Proofs_add at hM
  refine lv_aload_n hx hb d_Proofs_add_0 rfl (lv_at hl 0 rfl) ?_
  refine va_get (D := D) (ci := 5) (v := .ref qFk) (C := R_Proofs) (T := F_Proofs) (N := 4) hx hb hts i_Proofs hown hK hP 0 rfl rfl 0 (by decide) (hts _ iw_4bf07af3) (fun _ h9 => h9) rfl d_Proofs_add_1 ?_
  refine lv_aload_n hx hb d_Proofs_add_4 rfl (lv_at hl 0 rfl) ?_
  refine va_get (D := D) (ci := 5) (v := .int fsz) (C := R_Proofs) (T := F_Proofs) (N := 4) hx hb hts i_Proofs hown hK hP 0 rfl rfl 3 (by decide) (hts _ iw_dffe7d9b) (fun _ h9 => h9) rfl d_Proofs_add_5 ?_
  refine lv_iload_n hx hb d_Proofs_add_8 rfl (lv_at hl 1 rfl) ?_
  obtain ⟨hin_9, hM⟩ := ixT hM
  refine va_iast hx hb hK hP hD hS 1 0 rfl rfl hin_9 d_Proofs_add_9 (fun H locs hP hD hS => ?_)
  have hP : va_P D classes [(qF, .inr (5, [.ref qFk, .ref qFf, .ref qFl, .int fsz])), (qFk, .inl (cT 0, 20, .inl (upd fkd fsz.toNatClampNeg p1))), (qFf, .inl (cT 0, 20, .inl ffr)), (qFl, .inl (cT 0, 20, .inl fto))] H := hP
  have hD : va_D A [(qF, .inr (5, [.ref qFk, .ref qFf, .ref qFl, .int fsz])), (qFk, .inl (cT 0, 20, .inl (upd fkd fsz.toNatClampNeg p1))), (qFf, .inl (cT 0, 20, .inl ffr)), (qFl, .inl (cT 0, 20, .inl fto))] := hD
  refine lv_aload_n hx hb d_Proofs_add_10 rfl (lv_at hl 0 rfl) ?_
  refine va_get (D := D) (ci := 5) (v := .ref qFf) (C := R_Proofs) (T := F_Proofs) (N := 4) hx hb hts i_Proofs hown hK hP 0 rfl rfl 1 (by decide) (hts _ iw_9b8324db) (fun _ h9 => h9) rfl d_Proofs_add_11 ?_
  refine lv_aload_n hx hb d_Proofs_add_14 rfl (lv_at hl 0 rfl) ?_
  refine va_get (D := D) (ci := 5) (v := .int fsz) (C := R_Proofs) (T := F_Proofs) (N := 4) hx hb hts i_Proofs hown hK hP 0 rfl rfl 3 (by decide) (hts _ iw_dffe7d9b) (fun _ h9 => h9) rfl d_Proofs_add_15 ?_
  refine lv_iload_n hx hb d_Proofs_add_18 rfl (lv_at hl 2 rfl) ?_
  obtain ⟨hin_19, hM⟩ := ixT hM
  refine va_iast hx hb hK hP hD hS 2 0 rfl rfl hin_19 d_Proofs_add_19 (fun H locs hP hD hS => ?_)
  have hP : va_P D classes [(qF, .inr (5, [.ref qFk, .ref qFf, .ref qFl, .int fsz])), (qFk, .inl (cT 0, 20, .inl (upd fkd fsz.toNatClampNeg p1))), (qFf, .inl (cT 0, 20, .inl (upd ffr fsz.toNatClampNeg p2))), (qFl, .inl (cT 0, 20, .inl fto))] H := hP
  have hD : va_D A [(qF, .inr (5, [.ref qFk, .ref qFf, .ref qFl, .int fsz])), (qFk, .inl (cT 0, 20, .inl (upd fkd fsz.toNatClampNeg p1))), (qFf, .inl (cT 0, 20, .inl (upd ffr fsz.toNatClampNeg p2))), (qFl, .inl (cT 0, 20, .inl fto))] := hD
  refine lv_aload_n hx hb d_Proofs_add_20 rfl (lv_at hl 0 rfl) ?_
  refine va_get (D := D) (ci := 5) (v := .ref qFl) (C := R_Proofs) (T := F_Proofs) (N := 4) hx hb hts i_Proofs hown hK hP 0 rfl rfl 2 (by decide) (hts _ iw_bd04cf5e) (fun _ h9 => h9) rfl d_Proofs_add_21 ?_
  refine lv_aload_n hx hb d_Proofs_add_24 rfl (lv_at hl 0 rfl) ?_
  refine va_get (D := D) (ci := 5) (v := .int fsz) (C := R_Proofs) (T := F_Proofs) (N := 4) hx hb hts i_Proofs hown hK hP 0 rfl rfl 3 (by decide) (hts _ iw_dffe7d9b) (fun _ h9 => h9) rfl d_Proofs_add_25 ?_
  refine lv_iload_n hx hb d_Proofs_add_28 rfl (lv_at hl 3 rfl) ?_
  obtain ⟨hin_29, hM⟩ := ixT hM
  refine va_iast hx hb hK hP hD hS 3 0 rfl rfl hin_29 d_Proofs_add_29 (fun H locs hP hD hS => ?_)
  have hP : va_P D classes [(qF, .inr (5, [.ref qFk, .ref qFf, .ref qFl, .int fsz])), (qFk, .inl (cT 0, 20, .inl (upd fkd fsz.toNatClampNeg p1))), (qFf, .inl (cT 0, 20, .inl (upd ffr fsz.toNatClampNeg p2))), (qFl, .inl (cT 0, 20, .inl (upd fto fsz.toNatClampNeg p3)))] H := hP
  have hD : va_D A [(qF, .inr (5, [.ref qFk, .ref qFf, .ref qFl, .int fsz])), (qFk, .inl (cT 0, 20, .inl (upd fkd fsz.toNatClampNeg p1))), (qFf, .inl (cT 0, 20, .inl (upd ffr fsz.toNatClampNeg p2))), (qFl, .inl (cT 0, 20, .inl (upd fto fsz.toNatClampNeg p3)))] := hD
  refine lv_aload_n hx hb d_Proofs_add_30 rfl (lv_at hl 0 rfl) ?_
  refine lv_dup hx hb d_Proofs_add_31 rfl ?_
  refine va_get (D := D) (ci := 5) (v := .int fsz) (C := R_Proofs) (T := F_Proofs) (N := 4) hx hb hts i_Proofs hown hK hP 0 rfl rfl 3 (by decide) (hts _ iw_dffe7d9b) (fun _ h9 => h9) rfl d_Proofs_add_32 ?_
  refine lv_iconst (v := 1) hx hb d_Proofs_add_35 (by decide) ?_
  refine lv_iadd hx hb d_Proofs_add_36 ?_
  refine va_put (D := D) (ci := 5) (v := .int (fsz + 1)) (ty := .int) (C := R_Proofs) (T := F_Proofs) (N := 4) hx hb hts i_Proofs t_Proofs t_Proofs_ok n_Proofs hown hK hP hD hS 0 rfl rfl 3 (by decide) (hts _ iw_dffe7d9b) (fun _ h9 => h9) rfl (by decide +kernel) rfl rfl (Nat.le_of_ble_eq_true rfl) d_Proofs_add_37 (fun H locs hP hD hS => ?_)
  have hP : va_P D classes [(qF, .inr (5, [.ref qFk, .ref qFf, .ref qFl, .int (fsz + 1)])), (qFk, .inl (cT 0, 20, .inl (upd fkd fsz.toNatClampNeg p1))), (qFf, .inl (cT 0, 20, .inl (upd ffr fsz.toNatClampNeg p2))), (qFl, .inl (cT 0, 20, .inl (upd fto fsz.toNatClampNeg p3)))] H := hP
  have hD : va_D A [(qF, .inr (5, [.ref qFk, .ref qFf, .ref qFl, .int (fsz + 1)])), (qFk, .inl (cT 0, 20, .inl (upd fkd fsz.toNatClampNeg p1))), (qFf, .inl (cT 0, 20, .inl (upd ffr fsz.toNatClampNeg p2))), (qFl, .inl (cT 0, 20, .inl (upd fto fsz.toNatClampNeg p3)))] := hD
  refine lv_aload_n hx hb d_Proofs_add_40 rfl (lv_at hl 0 rfl) ?_
  refine va_get (D := D) (ci := 5) (v := .int (fsz + 1)) (C := R_Proofs) (T := F_Proofs) (N := 4) hx hb hts i_Proofs hown hK hP 0 rfl rfl 3 (by decide) (hts _ iw_dffe7d9b) (fun _ h9 => h9) rfl d_Proofs_add_41 ?_
  refine lv_iconst (v := 1) hx hb d_Proofs_add_44 (by decide) ?_
  refine lv_isub hx hb d_Proofs_add_45 ?_
  obtain ⟨eo0, eo1, eo2, eo3, eo4⟩ := so5T hM
  subst eo0
  subst eo1
  subst eo2
  subst eo3
  subst eo4
  exact rt_i S hr hlocks hP hD hS d_Proofs_add_46
def rm_Proofs_isGood : Room := { frames := 0, cells := 0, slots := 0, locals := 0 }
set_option maxHeartbeats 4000000 in
set_option maxRecDepth 100000 in
theorem w_Proofs_isGood_23 {p : Program} {l : Launch} {e : Env} {s : State} {m : MethodId} {args : Array Value} {below : List Frame} {meth : Method} {c : Code} {D : va_G} {cT : Nat → ClassId} {A : Nat → Prop} (S : CallFix p m c b_Proofs_isGood 6 s args TB R_Proofs) (hr : meth.sig.returnType = (some .boolean)) (hlocks : meth.locks = false) (hE : EN D cT s) (hA : ∀ q, s.heap.size ≤ q → A q) {qF : Nat} {qFk : Nat} {qFf : Nat} {qFl : Nat} {fsz : Int32} {fkd : Nat → Int32} {ffr : Nat → Int32} {fto : Nat → Int32} {p1 : Int32} {p2 : Int64} {p3 : Int32} {rr : Bool} : ∀ (s0 : Bool), k_Proofs_isGood_23 fkd ffr fto p1 p2 p3  s0 = some rr → ∀ (H : Heap) (locs : List Loc) (ls : Array Slot), va_P D classes [(qF, .inr (5, [.ref qFk, .ref qFf, .ref qFl, .int fsz])), (qFk, .inl (cT 0, 20, .inl fkd)), (qFf, .inl (cT 0, 20, .inl ffr)), (qFl, .inl (cT 0, 20, .inl fto))] H → va_D A [(qF, .inr (5, [.ref qFk, .ref qFf, .ref qFl, .int fsz])), (qFk, .inl (cT 0, 20, .inl fkd)), (qFf, .inl (cT 0, 20, .inl ffr)), (qFl, .inl (cT 0, 20, .inl fto))] → va_S A s.heap H locs → lv_has ls 6 [(0, .ref qF), (1, .int p1), (4, .int p3)] → W p l e (headSpec (WS y_Proofs_isGood b_Proofs_isGood 6 (some .boolean)) rm_Proofs_isGood).room s m args below meth c H locs 0 0 (MQ below (qW D A [(qF, .inr (5, [.ref qFk, .ref qFf, .ref qFl, .int fsz])), (qFk, .inl (cT 0, 20, .inl fkd)), (qFf, .inl (cT 0, 20, .inl ffr)), (qFl, .inl (cT 0, 20, .inl fto))] (some (.int (bI rr)))) args s 0 0 A) (F0 m 23 ls [.int (bI s0)]) := by
  obtain ⟨hx, hb, hml, hown, hts⟩ := id S
  have hK := hE.1
  have hN := hE.2
  intro s0 hM H locs ls hP hD hS hl
  unfold k_Proofs_isGood_23 at hM
  refine lv_istore (lv' := [(5, .int (bI s0)), (0, .ref qF), (1, .int p1), (4, .int p3)]) hx hb d_Proofs_isGood_23 hl (by decide) rfl (fun ls hl => ?_)
  refine lv_iload hx hb d_Proofs_isGood_25 (lv_at hl 0 rfl) ?_
  refine lv_if_eq (tgt := 56) hx hb d_Proofs_isGood_27 (by decide) (fun c_27 => ?_) (fun c_27 => ?_)
  · have hM := itT hM c_27
    refine lv_iconst (v := 0) hx hb d_Proofs_isGood_56 (by decide) ?_
    have eo0 := Option.some.inj hM
    subst eo0
    exact rt_z S hr hlocks hP hD hS d_Proofs_isGood_57
  · have hM := itF hM c_27
    refine lv_iload hx hb d_Proofs_isGood_30 (lv_at hl 3 rfl) ?_
    refine lv_aload_n hx hb d_Proofs_isGood_32 rfl (lv_at hl 1 rfl) ?_
    refine va_get (D := D) (ci := 5) (v := .ref qFf) (C := R_Proofs) (T := F_Proofs) (N := 4) hx hb hts i_Proofs hown hK hP 0 rfl rfl 1 (by decide) (hts _ iw_9b8324db) (fun _ h9 => h9) rfl d_Proofs_isGood_33 ?_
    refine lv_iload_n hx hb d_Proofs_isGood_36 rfl (lv_at hl 2 rfl) ?_
    obtain ⟨hin_37, hM⟩ := ixT hM
    refine va_iald hx hb hK hP 2 0 rfl rfl hin_37 d_Proofs_isGood_37 ?_
    refine lv_icmp_lt (tgt := 56) hx hb d_Proofs_isGood_38 (by decide) (fun c_38 => ?_) (fun c_38 => ?_)
    · have hM := itT hM c_38
      refine lv_iconst (v := 0) hx hb d_Proofs_isGood_56 (by decide) ?_
      have eo0 := Option.some.inj hM
      subst eo0
      exact rt_z S hr hlocks hP hD hS d_Proofs_isGood_57
    · have hM := itF hM c_38
      refine lv_iload hx hb d_Proofs_isGood_41 (lv_at hl 3 rfl) ?_
      refine lv_aload_n hx hb d_Proofs_isGood_43 rfl (lv_at hl 1 rfl) ?_
      refine va_get (D := D) (ci := 5) (v := .ref qFl) (C := R_Proofs) (T := F_Proofs) (N := 4) hx hb hts i_Proofs hown hK hP 0 rfl rfl 2 (by decide) (hts _ iw_bd04cf5e) (fun _ h9 => h9) rfl d_Proofs_isGood_44 ?_
      refine lv_iload_n hx hb d_Proofs_isGood_47 rfl (lv_at hl 2 rfl) ?_
      obtain ⟨hin_48, hM⟩ := ixT hM
      refine va_iald hx hb hK hP 3 0 rfl rfl hin_48 d_Proofs_isGood_48 ?_
      refine lv_icmp_gt (tgt := 56) hx hb d_Proofs_isGood_49 (by decide) (fun c_49 => ?_) (fun c_49 => ?_)
      · have hM := itT hM c_49
        refine lv_iconst (v := 0) hx hb d_Proofs_isGood_56 (by decide) ?_
        have eo0 := Option.some.inj hM
        subst eo0
        exact rt_z S hr hlocks hP hD hS d_Proofs_isGood_57
      · have hM := itF hM c_49
        refine lv_iconst (v := 1) hx hb d_Proofs_isGood_52 (by decide) ?_
        refine lv_goto (tgt := 57) hx hb d_Proofs_isGood_53 (by decide) ?_
        have eo0 := Option.some.inj hM
        subst eo0
        exact rt_z S hr hlocks hP hD hS d_Proofs_isGood_57
set_option maxHeartbeats 4000000 in
set_option maxRecDepth 100000 in
theorem w_Proofs_isGood_18 {p : Program} {l : Launch} {e : Env} {s : State} {m : MethodId} {args : Array Value} {below : List Frame} {meth : Method} {c : Code} {D : va_G} {cT : Nat → ClassId} {A : Nat → Prop} (S : CallFix p m c b_Proofs_isGood 6 s args TB R_Proofs) (hr : meth.sig.returnType = (some .boolean)) (hlocks : meth.locks = false) (hE : EN D cT s) (hA : ∀ q, s.heap.size ≤ q → A q) {qF : Nat} {qFk : Nat} {qFf : Nat} {qFl : Nat} {fsz : Int32} {fkd : Nat → Int32} {ffr : Nat → Int32} {fto : Nat → Int32} {p1 : Int32} {p2 : Int64} {p3 : Int32} {rr : Bool} (hM : k_Proofs_isGood_18 fkd ffr fto p1 p2 p3  = some rr) : ∀ (H : Heap) (locs : List Loc) (ls : Array Slot), va_P D classes [(qF, .inr (5, [.ref qFk, .ref qFf, .ref qFl, .int fsz])), (qFk, .inl (cT 0, 20, .inl fkd)), (qFf, .inl (cT 0, 20, .inl ffr)), (qFl, .inl (cT 0, 20, .inl fto))] H → va_D A [(qF, .inr (5, [.ref qFk, .ref qFf, .ref qFl, .int fsz])), (qFk, .inl (cT 0, 20, .inl fkd)), (qFf, .inl (cT 0, 20, .inl ffr)), (qFl, .inl (cT 0, 20, .inl fto))] → va_S A s.heap H locs → lv_has ls 6 [(0, .ref qF), (1, .int p1), (4, .int p3)] → W p l e (headSpec (WS y_Proofs_isGood b_Proofs_isGood 6 (some .boolean)) rm_Proofs_isGood).room s m args below meth c H locs 0 0 (MQ below (qW D A [(qF, .inr (5, [.ref qFk, .ref qFf, .ref qFl, .int fsz])), (qFk, .inl (cT 0, 20, .inl fkd)), (qFf, .inl (cT 0, 20, .inl ffr)), (qFl, .inl (cT 0, 20, .inl fto))] (some (.int (bI rr)))) args s 0 0 A) (F0 m 18 ls []) := by
  obtain ⟨hx, hb, hml, hown, hts⟩ := id S
  have hK := hE.1
  have hN := hE.2
  intro H locs ls hP hD hS hl
  unfold k_Proofs_isGood_18 at hM
  refine lv_iconst (v := 1) hx hb d_Proofs_isGood_18 (by decide) ?_
  refine lv_goto (tgt := 23) hx hb d_Proofs_isGood_19 (by decide) ?_
  exact w_Proofs_isGood_23 S hr hlocks hE hA  true hM _ _ _ hP hD hS (lv_sub hl [0, 1, 2] rfl)
set_option maxHeartbeats 4000000 in
set_option maxRecDepth 100000 in
theorem c_Proofs_isGood (l : Launch) (D : va_G) (cT : Nat → ClassId) (qF : Nat) (qFk : Nat) (qFf : Nat) (qFl : Nat) (fsz : Int32) (fkd : Nat → Int32) (ffr : Nat → Int32) (fto : Nat → Int32) (p1 : Int32) (p2 : Int64) (p3 : Int32) {rr : Bool} (hM : m_Proofs_isGood p1 p2 p3 fkd ffr fto = some rr) : Ct l y_Proofs_isGood (WS y_Proofs_isGood b_Proofs_isGood 6 (some .boolean)) rm_Proofs_isGood D cT [.ref qF, .int p1, .long p2, .int p3] [(qF, .inr (5, [.ref qFk, .ref qFf, .ref qFl, .int fsz])), (qFk, .inl (cT 0, 20, .inl fkd)), (qFf, .inl (cT 0, 20, .inl ffr)), (qFl, .inl (cT 0, 20, .inl fto))] (some (.int (bI rr))) [(qF, .inr (5, [.ref qFk, .ref qFf, .ref qFl, .int fsz])), (qFk, .inl (cT 0, 20, .inl fkd)), (qFf, .inl (cT 0, 20, .inl ffr)), (qFl, .inl (cT 0, 20, .inl fto))] 0 0 := by
  intro sz
  refine Met.ofW (cc := b_Proofs_isGood) (maxL := 6) (ret := (some .boolean)) (by decide) rfl ?_
  intro p e s m args below meth c s₁ B hml hv
  obtain ⟨rfl, hsz, hP, hE, hD0⟩ := hv
  have hx := B.exec
  have hb := B.bytes
  have hr := B.returns
  have hts : ∀ w ∈ TB, w.before _ s = true := fun w h => atoms_spec (ws := WS y_Proofs_isGood b_Proofs_isGood 6 (some .boolean)) B.pre w (List.mem_cons_of_mem _ h)
  have hown : s.vm.findClass R_Proofs = some m.cls := findClass_of_methodNamed B.named
  have hlocks := B.notSynchronized
  have hK := hE.1
  have hN := hE.2
  subst hsz
  have hD := hD0.self (sz := s.heap.size)
  generalize hAe : va_A [(qF, .inr (5, [.ref qFk, .ref qFf, .ref qFl, .int fsz])), (qFk, .inl (cT 0, 20, .inl fkd)), (qFf, .inl (cT 0, 20, .inl ffr)), (qFl, .inl (cT 0, 20, .inl fto))] s.heap.size = A at hD ⊢
  have hA : ∀ q : Nat, s.heap.size ≤ q → A q := fun q h => by rw [← hAe]; exact Or.inr h
  have hS : va_S A s.heap s.heap [] := va_S.rf
  have hl := lv_entry ([.ref qF, .int p1, .long p2, .int p3]) (n := 6) (Nat.le_of_ble_eq_true rfl)
  rw [lg_entry_eq]
  generalize (lg_sl ([.ref qF, .int p1, .long p2, .int p3]) ++ List.replicate (6 - (lg_sl ([.ref qF, .int p1, .long p2, .int p3])).length) Slot.unset).toArray = ls at hl ⊢
  have hl : lv_has ls 6 [(0, .ref qF), (1, .int p1), (2, .long p2), (4, .int p3)] := hl
  have S : CallFix p m c b_Proofs_isGood 6 s _ TB R_Proofs := ⟨hx, hb, hml, hown, hts⟩
  unfold m_Proofs_isGood at hM
  refine lv_aload_n hx hb d_Proofs_isGood_0 rfl (lv_at hl 0 rfl) ?_
  refine va_get (D := D) (ci := 5) (v := .ref qFk) (C := R_Proofs) (T := F_Proofs) (N := 4) hx hb hts i_Proofs hown hK hP 0 rfl rfl 0 (by decide) (hts _ iw_4bf07af3) (fun _ h9 => h9) rfl d_Proofs_isGood_1 ?_
  refine lv_iload_n hx hb d_Proofs_isGood_4 rfl (lv_at hl 1 rfl) ?_
  obtain ⟨hin_5, hM⟩ := ixT hM
  refine va_iald hx hb hK hP 1 0 rfl rfl hin_5 d_Proofs_isGood_5 ?_
  refine lv_iconst (v := 1) hx hb d_Proofs_isGood_6 (by decide) ?_
  refine lv_icmp_eq (tgt := 18) hx hb d_Proofs_isGood_7 (by decide) (fun c_7 => ?_) (fun c_7 => ?_)
  · have hM := itT hM c_7
    exact w_Proofs_isGood_18 S hr hlocks hE hA   hM _ _ _ hP hD hS (lv_sub hl [0, 1, 3] rfl)
  · have hM := itF hM c_7
    refine lv_lload_n hx hb d_Proofs_isGood_10 rfl (lv_at hl 2 rfl) ?_
    refine lv_ldc2 (v := 1000000) hx hb hown (hts _ iw_de725722) d_Proofs_isGood_11 ?_
    refine W.lcmp hx hb d_Proofs_isGood_14 ?_
    refine lv_if_gt (tgt := 22) hx hb d_Proofs_isGood_15 (by decide) (fun c_15 => ?_) (fun c_15 => ?_)
    · have hM := itT hM c_15
      refine lv_iconst (v := 0) hx hb d_Proofs_isGood_22 (by decide) ?_
      exact w_Proofs_isGood_23 S hr hlocks hE hA  false hM _ _ _ hP hD hS (lv_sub hl [0, 1, 3] rfl)
    · have hM := itF hM c_15
      exact w_Proofs_isGood_18 S hr hlocks hE hA   hM _ _ _ hP hD hS (lv_sub hl [0, 1, 3] rfl)
