def rm_Text_add : Room := { frames := 0, cells := 0, slots := 0, locals := 0 }
set_option maxHeartbeats 4000000 in
set_option maxRecDepth 100000 in
theorem c_Text_add (l : Launch) (D : va_G) (cT : Nat → ClassId) (qT : Nat) (qTs : Nat) (tlen : Int32) (tpl : Int32) (tsg : Nat → Int32) (p1 : Int32) {o_tlen : Int32} {o_tsg : Nat → Int32} (hM : m_Text_add p1 tlen tsg = some (o_tlen, o_tsg)) : Ct l y_Text_add (WS y_Text_add b_Text_add 2 none) rm_Text_add D cT [.ref qT, .int p1] [(qT, .inr (1, [.ref qTs, .int tlen, .int tpl])), (qTs, .inl (cT 2, 300, .inl tsg))] none [(qT, .inr (1, [.ref qTs, .int o_tlen, .int tpl])), (qTs, .inl (cT 2, 300, .inl o_tsg))] 0 0 := by
  intro sz
  refine Met.ofW (cc := b_Text_add) (maxL := 2) (ret := none) (by decide) rfl ?_
  intro p e s m args below meth c s₁ B hml hv
  obtain ⟨rfl, hsz, hP, hE, hD0⟩ := hv
  have hx := B.exec
  have hb := B.bytes
  have hr := B.returns
  have hts : ∀ w ∈ TB, w.before _ s = true := fun w h => atoms_spec (ws := WS y_Text_add b_Text_add 2 none) B.pre w (List.mem_cons_of_mem _ h)
  have hown : s.vm.findClass R_Text = some m.cls := findClass_of_methodNamed B.named
  have hlocks := B.notSynchronized
  have hK := hE.1
  have hN := hE.2
  subst hsz
  have hD := hD0.self (sz := s.heap.size)
  generalize hAe : va_A [(qT, .inr (1, [.ref qTs, .int tlen, .int tpl])), (qTs, .inl (cT 2, 300, .inl tsg))] s.heap.size = A at hD ⊢
  have hA : ∀ q : Nat, s.heap.size ≤ q → A q := fun q h => by rw [← hAe]; exact Or.inr h
  have hS : va_S A s.heap s.heap [] := va_S.rf
  have hl := lv_entry ([.ref qT, .int p1]) (n := 2) (Nat.le_of_ble_eq_true rfl)
  rw [lg_entry_eq]
  generalize (lg_sl ([.ref qT, .int p1]) ++ List.replicate (2 - (lg_sl ([.ref qT, .int p1])).length) Slot.unset).toArray = ls at hl ⊢
  have hl : lv_has ls 2 [(0, .ref qT), (1, .int p1)] := hl
  have S : CallFix p m c b_Text_add 2 s _ TB R_Text := ⟨hx, hb, hml, hown, hts⟩
  unfold m_Text_add at hM
  refine lv_aload_n hx hb d_Text_add_0 rfl (lv_at hl 0 rfl) ?_
  refine va_get (D := D) (ci := 1) (v := .ref qTs) (C := R_Text) (T := F_Text) (N := 3) hx hb hts i_Text hown hK hP 0 rfl rfl 0 (by decide) (hts _ iw_c5707c1f) (fun _ h9 => h9) rfl d_Text_add_1 ?_
  refine lv_aload_n hx hb d_Text_add_4 rfl (lv_at hl 0 rfl) ?_
  refine va_get (D := D) (ci := 1) (v := .int tlen) (C := R_Text) (T := F_Text) (N := 3) hx hb hts i_Text hown hK hP 0 rfl rfl 1 (by decide) (hts _ iw_f5700a61) (fun _ h9 => h9) rfl d_Text_add_5 ?_
  refine lv_iload_n hx hb d_Text_add_8 rfl (lv_at hl 1 rfl) ?_
  obtain ⟨hin_9, hM⟩ := ixT hM
  refine va_cast hx hb hK hP hD hS 1 2 rfl rfl hin_9 d_Text_add_9 (fun H locs hP hD hS => ?_)
  have hP : va_P D classes [(qT, .inr (1, [.ref qTs, .int tlen, .int tpl])), (qTs, .inl (cT 2, 300, .inl (upd tsg tlen.toNatClampNeg (vp_nar .char p1))))] H := hP
  have hD : va_D A [(qT, .inr (1, [.ref qTs, .int tlen, .int tpl])), (qTs, .inl (cT 2, 300, .inl (upd tsg tlen.toNatClampNeg (vp_nar .char p1))))] := hD
  refine lv_aload_n hx hb d_Text_add_10 rfl (lv_at hl 0 rfl) ?_
  refine lv_dup hx hb d_Text_add_11 rfl ?_
  refine va_get (D := D) (ci := 1) (v := .int tlen) (C := R_Text) (T := F_Text) (N := 3) hx hb hts i_Text hown hK hP 0 rfl rfl 1 (by decide) (hts _ iw_f5700a61) (fun _ h9 => h9) rfl d_Text_add_12 ?_
  refine lv_iconst (v := 1) hx hb d_Text_add_15 (by decide) ?_
  refine lv_iadd hx hb d_Text_add_16 ?_
  refine va_put (D := D) (ci := 1) (v := .int (tlen + 1)) (ty := .int) (C := R_Text) (T := F_Text) (N := 3) hx hb hts i_Text t_Text t_Text_ok n_Text hown hK hP hD hS 0 rfl rfl 1 (by decide) (hts _ iw_f5700a61) (fun _ h9 => h9) rfl (by decide +kernel) rfl rfl (Nat.le_of_ble_eq_true rfl) d_Text_add_17 (fun H locs hP hD hS => ?_)
  have hP : va_P D classes [(qT, .inr (1, [.ref qTs, .int (tlen + 1), .int tpl])), (qTs, .inl (cT 2, 300, .inl (upd tsg tlen.toNatClampNeg (vp_nar .char p1))))] H := hP
  have hD : va_D A [(qT, .inr (1, [.ref qTs, .int (tlen + 1), .int tpl])), (qTs, .inl (cT 2, 300, .inl (upd tsg tlen.toNatClampNeg (vp_nar .char p1))))] := hD
  obtain ⟨eo0, eo1⟩ := so2T hM
  subst eo0
  subst eo1
  exact rt_v S hr hlocks hP hD hS d_Text_add_20
def rm_Text_passesSign : Room := { frames := 0, cells := 0, slots := 0, locals := 0 }
set_option maxHeartbeats 4000000 in
set_option maxRecDepth 100000 in
theorem c_Text_passesSign (l : Launch) (D : va_G) (cT : Nat → ClassId) (qT : Nat) (qTs : Nat) (tlen : Int32) (tpl : Int32) (tsg : Nat → Int32) (p1 : Int32) {rr : Bool} {o_tpl : Int32} (hM : m_Text_passesSign p1 tlen tsg tpl = some (rr, o_tpl)) : Ct l y_Text_passesSign (WS y_Text_passesSign b_Text_passesSign 2 (some .boolean)) rm_Text_passesSign D cT [.ref qT, .int p1] [(qT, .inr (1, [.ref qTs, .int tlen, .int tpl])), (qTs, .inl (cT 2, 300, .inl tsg))] (some (.int (bI rr))) [(qT, .inr (1, [.ref qTs, .int tlen, .int o_tpl])), (qTs, .inl (cT 2, 300, .inl tsg))] 0 0 := by
  intro sz
  refine Met.ofW (cc := b_Text_passesSign) (maxL := 2) (ret := (some .boolean)) (by decide) rfl ?_
  intro p e s m args below meth c s₁ B hml hv
  obtain ⟨rfl, hsz, hP, hE, hD0⟩ := hv
  have hx := B.exec
  have hb := B.bytes
  have hr := B.returns
  have hts : ∀ w ∈ TB, w.before _ s = true := fun w h => atoms_spec (ws := WS y_Text_passesSign b_Text_passesSign 2 (some .boolean)) B.pre w (List.mem_cons_of_mem _ h)
  have hown : s.vm.findClass R_Text = some m.cls := findClass_of_methodNamed B.named
  have hlocks := B.notSynchronized
  have hK := hE.1
  have hN := hE.2
  subst hsz
  have hD := hD0.self (sz := s.heap.size)
  generalize hAe : va_A [(qT, .inr (1, [.ref qTs, .int tlen, .int tpl])), (qTs, .inl (cT 2, 300, .inl tsg))] s.heap.size = A at hD ⊢
  have hA : ∀ q : Nat, s.heap.size ≤ q → A q := fun q h => by rw [← hAe]; exact Or.inr h
  have hS : va_S A s.heap s.heap [] := va_S.rf
  have hl := lv_entry ([.ref qT, .int p1]) (n := 2) (Nat.le_of_ble_eq_true rfl)
  rw [lg_entry_eq]
  generalize (lg_sl ([.ref qT, .int p1]) ++ List.replicate (2 - (lg_sl ([.ref qT, .int p1])).length) Slot.unset).toArray = ls at hl ⊢
  have hl : lv_has ls 2 [(0, .ref qT), (1, .int p1)] := hl
  have S : CallFix p m c b_Text_passesSign 2 s _ TB R_Text := ⟨hx, hb, hml, hown, hts⟩
  unfold m_Text_passesSign at hM
  refine lv_aload_n hx hb d_Text_passesSign_0 rfl (lv_at hl 0 rfl) ?_
  refine va_get (D := D) (ci := 1) (v := .int tpl) (C := R_Text) (T := F_Text) (N := 3) hx hb hts i_Text hown hK hP 0 rfl rfl 2 (by decide) (hts _ iw_acadda54) (fun _ h9 => h9) rfl d_Text_passesSign_1 ?_
  refine lv_aload_n hx hb d_Text_passesSign_4 rfl (lv_at hl 0 rfl) ?_
  refine va_get (D := D) (ci := 1) (v := .int tlen) (C := R_Text) (T := F_Text) (N := 3) hx hb hts i_Text hown hK hP 0 rfl rfl 1 (by decide) (hts _ iw_f5700a61) (fun _ h9 => h9) rfl d_Text_passesSign_5 ?_
  refine lv_icmp_ge (tgt := 24) hx hb d_Text_passesSign_8 (by decide) (fun c_8 => ?_) (fun c_8 => ?_)
  · have hM := itT hM c_8
    refine lv_iconst (v := 0) hx hb d_Text_passesSign_24 (by decide) ?_
    obtain ⟨eo0, eo1⟩ := so2T hM
    subst eo0
    subst eo1
    exact rt_z S hr hlocks hP hD hS d_Text_passesSign_25
  · have hM := itF hM c_8
    refine lv_aload_n hx hb d_Text_passesSign_11 rfl (lv_at hl 0 rfl) ?_
    refine va_get (D := D) (ci := 1) (v := .ref qTs) (C := R_Text) (T := F_Text) (N := 3) hx hb hts i_Text hown hK hP 0 rfl rfl 0 (by decide) (hts _ iw_c5707c1f) (fun _ h9 => h9) rfl d_Text_passesSign_12 ?_
    refine lv_aload_n hx hb d_Text_passesSign_15 rfl (lv_at hl 0 rfl) ?_
    refine va_get (D := D) (ci := 1) (v := .int tpl) (C := R_Text) (T := F_Text) (N := 3) hx hb hts i_Text hown hK hP 0 rfl rfl 2 (by decide) (hts _ iw_acadda54) (fun _ h9 => h9) rfl d_Text_passesSign_16 ?_
    obtain ⟨hin_19, hM⟩ := ixT hM
    refine va_cald hx hb hK hP 1 2 rfl rfl hin_19 d_Text_passesSign_19 ?_
    refine lv_iload_n hx hb d_Text_passesSign_20 rfl (lv_at hl 1 rfl) ?_
    refine lv_icmp_eq (tgt := 26) hx hb d_Text_passesSign_21 (by decide) (fun c_21 => ?_) (fun c_21 => ?_)
    · have hM := itT hM c_21
      refine lv_aload_n hx hb d_Text_passesSign_26 rfl (lv_at hl 0 rfl) ?_
      refine lv_dup hx hb d_Text_passesSign_27 rfl ?_
      refine va_get (D := D) (ci := 1) (v := .int tpl) (C := R_Text) (T := F_Text) (N := 3) hx hb hts i_Text hown hK hP 0 rfl rfl 2 (by decide) (hts _ iw_acadda54) (fun _ h9 => h9) rfl d_Text_passesSign_28 ?_
      refine lv_iconst (v := 1) hx hb d_Text_passesSign_31 (by decide) ?_
      refine lv_iadd hx hb d_Text_passesSign_32 ?_
      refine va_put (D := D) (ci := 1) (v := .int (tpl + 1)) (ty := .int) (C := R_Text) (T := F_Text) (N := 3) hx hb hts i_Text t_Text t_Text_ok n_Text hown hK hP hD hS 0 rfl rfl 2 (by decide) (hts _ iw_acadda54) (fun _ h9 => h9) rfl (by decide +kernel) rfl rfl (Nat.le_of_ble_eq_true rfl) d_Text_passesSign_33 (fun H locs hP hD hS => ?_)
      have hP : va_P D classes [(qT, .inr (1, [.ref qTs, .int tlen, .int (tpl + 1)])), (qTs, .inl (cT 2, 300, .inl tsg))] H := hP
      have hD : va_D A [(qT, .inr (1, [.ref qTs, .int tlen, .int (tpl + 1)])), (qTs, .inl (cT 2, 300, .inl tsg))] := hD
      refine lv_iconst (v := 1) hx hb d_Text_passesSign_36 (by decide) ?_
      obtain ⟨eo0, eo1⟩ := so2T hM
      subst eo0
      subst eo1
      exact rt_z S hr hlocks hP hD hS d_Text_passesSign_37
    · have hM := itF hM c_21
      refine lv_iconst (v := 0) hx hb d_Text_passesSign_24 (by decide) ?_
      obtain ⟨eo0, eo1⟩ := so2T hM
      subst eo0
      subst eo1
      exact rt_z S hr hlocks hP hD hS d_Text_passesSign_25
def rm_Text_passesDigits : Room := { frames := 1, cells := 0, slots := 0, locals := 20 }
set_option maxHeartbeats 4000000 in
set_option maxRecDepth 100000 in
theorem w_Text_passesDigits_72 {p : Program} {l : Launch} {e : Env} {s : State} {m : MethodId} {args : Array Value} {below : List Frame} {meth : Method} {c : Code} {D : va_G} {cT : Nat → ClassId} {A : Nat → Prop} (S : CallFix p m c b_Text_passesDigits 5 s args TB R_Text) (hr : meth.sig.returnType = (some .boolean)) (hlocks : meth.locks = false) (hE : EN D cT s) (hA : ∀ q, s.heap.size ≤ q → A q) {qT : Nat} {qTs : Nat} {tlen : Int32} {tsg : Nat → Int32} {p1 : Int32} {p2 : Int32} {rr : Bool} {o_tpl : Int32} : ∀ (x3 : Int32) (x4 : Int32) (tpl : Int32), k_Text_passesDigits_72 tlen tsg p1 p2  x3 x4 tpl = some (rr, o_tpl) → ∀ (H : Heap) (locs : List Loc) (ls : Array Slot), va_P D classes [(qT, .inr (1, [.ref qTs, .int tlen, .int tpl])), (qTs, .inl (cT 2, 300, .inl tsg))] H → va_D A [(qT, .inr (1, [.ref qTs, .int tlen, .int tpl])), (qTs, .inl (cT 2, 300, .inl tsg))] → va_S A s.heap H locs → lv_has ls 5 [(2, .int p2), (3, .int x3), (4, .int x4)] → W p l e (headSpec (WS y_Text_passesDigits b_Text_passesDigits 5 (some .boolean)) rm_Text_passesDigits).room s m args below meth c H locs 0 0 (MQ below (qW D A [(qT, .inr (1, [.ref qTs, .int tlen, .int o_tpl])), (qTs, .inl (cT 2, 300, .inl tsg))] (some (.int (bI rr)))) args s 0 0 A) (F0 m 72 ls []) := by
  obtain ⟨hx, hb, hml, hown, hts⟩ := id S
  have hK := hE.1
  have hN := hE.2
  intro x3 x4 tpl hM H locs ls hP hD hS hl
  unfold k_Text_passesDigits_72 at hM
  refine lv_iload_n hx hb d_Text_passesDigits_72 rfl (lv_at hl 1 rfl) ?_
  refine lv_if_le (tgt := 86) hx hb d_Text_passesDigits_73 (by decide) (fun c_73 => ?_) (fun c_73 => ?_)
  · have hM := itT hM c_73
    refine lv_iconst (v := 0) hx hb d_Text_passesDigits_86 (by decide) ?_
    obtain ⟨eo0, eo1⟩ := so2T hM
    subst eo0
    subst eo1
    exact rt_z S hr hlocks hP hD hS d_Text_passesDigits_87
  · have hM := itF hM c_73
    refine lv_iload hx hb d_Text_passesDigits_76 (lv_at hl 2 rfl) ?_
    refine lv_iload_n hx hb d_Text_passesDigits_78 rfl (lv_at hl 0 rfl) ?_
    refine lv_icmp_gt (tgt := 86) hx hb d_Text_passesDigits_79 (by decide) (fun c_79 => ?_) (fun c_79 => ?_)
    · have hM := itT hM c_79
      refine lv_iconst (v := 0) hx hb d_Text_passesDigits_86 (by decide) ?_
      obtain ⟨eo0, eo1⟩ := so2T hM
      subst eo0
      subst eo1
      exact rt_z S hr hlocks hP hD hS d_Text_passesDigits_87
    · have hM := itF hM c_79
      refine lv_iconst (v := 1) hx hb d_Text_passesDigits_82 (by decide) ?_
      refine lv_goto (tgt := 87) hx hb d_Text_passesDigits_83 (by decide) ?_
      obtain ⟨eo0, eo1⟩ := so2T hM
      subst eo0
      subst eo1
      exact rt_z S hr hlocks hP hD hS d_Text_passesDigits_87
set_option maxHeartbeats 4000000 in
set_option maxRecDepth 100000 in
theorem w_Text_passesDigits_5 {p : Program} {l : Launch} {e : Env} {s : State} {m : MethodId} {args : Array Value} {below : List Frame} {meth : Method} {c : Code} {D : va_G} {cT : Nat → ClassId} {A : Nat → Prop} (S : CallFix p m c b_Text_passesDigits 5 s args TB R_Text) (hr : meth.sig.returnType = (some .boolean)) (hlocks : meth.locks = false) (hE : EN D cT s) (hA : ∀ q, s.heap.size ≤ q → A q) {qT : Nat} {qTs : Nat} {tlen : Int32} {tsg : Nat → Int32} {p1 : Int32} {p2 : Int32} {rr : Bool} {o_tpl : Int32} : ∀ (n : Nat) (x3 : Int32) (x4 : Int32) (tpl : Int32), k_Text_passesDigits_5 tlen tsg p1 p2  n x3 x4 tpl = some (rr, o_tpl) → ∀ (H : Heap) (locs : List Loc) (ls : Array Slot), va_P D classes [(qT, .inr (1, [.ref qTs, .int tlen, .int tpl])), (qTs, .inl (cT 2, 300, .inl tsg))] H → va_D A [(qT, .inr (1, [.ref qTs, .int tlen, .int tpl])), (qTs, .inl (cT 2, 300, .inl tsg))] → va_S A s.heap H locs → lv_has ls 5 [(0, .ref qT), (1, .int p1), (2, .int p2), (3, .int x3), (4, .int x4)] → W p l e (headSpec (WS y_Text_passesDigits b_Text_passesDigits 5 (some .boolean)) rm_Text_passesDigits).room s m args below meth c H locs 0 0 (MQ below (qW D A [(qT, .inr (1, [.ref qTs, .int tlen, .int o_tpl])), (qTs, .inl (cT 2, 300, .inl tsg))] (some (.int (bI rr)))) args s 0 0 A) (F0 m 5 ls []) := by
  obtain ⟨hx, hb, hml, hown, hts⟩ := id S
  have hK := hE.1
  have hN := hE.2
  intro n
  induction n with
  | zero =>
    intro x3 x4 tpl hM
    rw [k_Text_passesDigits_5_z] at hM
    cases hM
  | succ n ih =>
    intro x3 x4 tpl hM H locs ls hP hD hS hl
    rw [k_Text_passesDigits_5_s] at hM
    refine lv_iload_n hx hb d_Text_passesDigits_5 rfl (lv_at hl 3 rfl) ?_
    refine lv_iload_n hx hb d_Text_passesDigits_6 rfl (lv_at hl 1 rfl) ?_
    refine lv_icmp_ge (tgt := 72) hx hb d_Text_passesDigits_7 (by decide) (fun c_7 => ?_) (fun c_7 => ?_)
    · have hM := itT hM c_7
      exact w_Text_passesDigits_72 S hr hlocks hE hA  x3 x4 tpl hM _ _ _ hP hD hS (lv_sub hl [2, 3, 4] rfl)
    · have hM := itF hM c_7
      refine lv_aload_n hx hb d_Text_passesDigits_10 rfl (lv_at hl 0 rfl) ?_
      refine va_get (D := D) (ci := 1) (v := .int tpl) (C := R_Text) (T := F_Text) (N := 3) hx hb hts i_Text hown hK hP 0 rfl rfl 2 (by decide) (hts _ iw_acadda54) (fun _ h9 => h9) rfl d_Text_passesDigits_11 ?_
      refine lv_aload_n hx hb d_Text_passesDigits_14 rfl (lv_at hl 0 rfl) ?_
      refine va_get (D := D) (ci := 1) (v := .int tlen) (C := R_Text) (T := F_Text) (N := 3) hx hb hts i_Text hown hK hP 0 rfl rfl 1 (by decide) (hts _ iw_f5700a61) (fun _ h9 => h9) rfl d_Text_passesDigits_15 ?_
      refine lv_icmp_ge (tgt := 72) hx hb d_Text_passesDigits_18 (by decide) (fun c_18 => ?_) (fun c_18 => ?_)
      · have hM := itT hM c_18
        exact w_Text_passesDigits_72 S hr hlocks hE hA  x3 x4 tpl hM _ _ _ hP hD hS (lv_sub hl [2, 3, 4] rfl)
      · have hM := itF hM c_18
        refine lv_aload_n hx hb d_Text_passesDigits_21 rfl (lv_at hl 0 rfl) ?_
        refine va_get (D := D) (ci := 1) (v := .ref qTs) (C := R_Text) (T := F_Text) (N := 3) hx hb hts i_Text hown hK hP 0 rfl rfl 0 (by decide) (hts _ iw_c5707c1f) (fun _ h9 => h9) rfl d_Text_passesDigits_22 ?_
        refine lv_aload_n hx hb d_Text_passesDigits_25 rfl (lv_at hl 0 rfl) ?_
        refine va_get (D := D) (ci := 1) (v := .int tpl) (C := R_Text) (T := F_Text) (N := 3) hx hb hts i_Text hown hK hP 0 rfl rfl 2 (by decide) (hts _ iw_acadda54) (fun _ h9 => h9) rfl d_Text_passesDigits_26 ?_
        obtain ⟨hin_29, hM⟩ := ixT hM
        refine va_cald hx hb hK hP 1 2 rfl rfl hin_29 d_Text_passesDigits_29 ?_
        obtain ⟨r_30, hc_30, hM⟩ := bd1T hM
        refine ca_SN (As := [.int (tsg tpl.toNatClampNeg)]) (rest := []) (wr := [(qT, .inr (1, [.ref qTs, .int tlen, .int tpl])), (qTs, .inl (cT 2, 300, .inl tsg))]) (w2 := [(qT, .inr (1, [.ref qTs, .int tlen, .int tpl])), (qTs, .inl (cT 2, 300, .inl tsg))]) S hE (c_Or_isDigit l D cT (tsg tpl.toNatClampNeg) hc_30) gw_170cc491 rfl rfl ⟨Nat.le_of_ble_eq_true rfl, Nat.le_of_ble_eq_true rfl⟩ rfl hl.1 rfl (Nat.le_of_ble_eq_true rfl) d_Text_passesDigits_30 ⟨Nat.zero_le _, Nat.zero_le _⟩ hP hD hS hA [] [0, 1] [0, 1] rfl rfl (by decide) (by decide) rfl (by decide) (by decide) (fun H locs hP hD hS => ?_)
        refine lv_if_eq (tgt := 72) hx hb d_Text_passesDigits_33 (by decide) (fun c_33 => ?_) (fun c_33 => ?_)
        · have hM := itT hM c_33
          exact w_Text_passesDigits_72 S hr hlocks hE hA  x3 x4 tpl hM _ _ _ hP hD hS (lv_sub hl [2, 3, 4] rfl)
        · have hM := itF hM c_33
          refine lv_iload hx hb d_Text_passesDigits_36 (lv_at hl 4 rfl) ?_
          refine lv_bipush (v := 10) hx hb d_Text_passesDigits_38 (by decide) ?_
          refine lv_imul hx hb d_Text_passesDigits_40 ?_
          refine lv_aload_n hx hb d_Text_passesDigits_41 rfl (lv_at hl 0 rfl) ?_
          refine va_get (D := D) (ci := 1) (v := .ref qTs) (C := R_Text) (T := F_Text) (N := 3) hx hb hts i_Text hown hK hP 0 rfl rfl 0 (by decide) (hts _ iw_c5707c1f) (fun _ h9 => h9) rfl d_Text_passesDigits_42 ?_
          refine lv_aload_n hx hb d_Text_passesDigits_45 rfl (lv_at hl 0 rfl) ?_
          refine va_get (D := D) (ci := 1) (v := .int tpl) (C := R_Text) (T := F_Text) (N := 3) hx hb hts i_Text hown hK hP 0 rfl rfl 2 (by decide) (hts _ iw_acadda54) (fun _ h9 => h9) rfl d_Text_passesDigits_46 ?_
          obtain ⟨hin_49, hM⟩ := ixT hM
          refine va_cald hx hb hK hP 1 2 rfl rfl hin_49 d_Text_passesDigits_49 ?_
          refine lv_bipush (v := 48) hx hb d_Text_passesDigits_50 (by decide) ?_
          refine lv_isub hx hb d_Text_passesDigits_52 ?_
          refine lv_iadd hx hb d_Text_passesDigits_53 ?_
          refine lv_istore (lv' := [(4, .int ((x4 * 10) + ((tsg tpl.toNatClampNeg) - 48))), (0, .ref qT), (1, .int p1), (2, .int p2), (3, .int x3)]) hx hb d_Text_passesDigits_54 hl (by decide) rfl (fun ls hl => ?_)
          refine lv_iinc (v := x3 + 1) (lv' := [(3, .int (x3 + 1)), (4, .int ((x4 * 10) + ((tsg tpl.toNatClampNeg) - 48))), (0, .ref qT), (1, .int p1), (2, .int p2)]) hx hb d_Text_passesDigits_56 hl (k := 4) rfl rfl (by decide) rfl (fun ls hl => ?_)
          refine lv_aload_n hx hb d_Text_passesDigits_59 rfl (lv_at hl 2 rfl) ?_
          refine lv_dup hx hb d_Text_passesDigits_60 rfl ?_
          refine va_get (D := D) (ci := 1) (v := .int tpl) (C := R_Text) (T := F_Text) (N := 3) hx hb hts i_Text hown hK hP 0 rfl rfl 2 (by decide) (hts _ iw_acadda54) (fun _ h9 => h9) rfl d_Text_passesDigits_61 ?_
          refine lv_iconst (v := 1) hx hb d_Text_passesDigits_64 (by decide) ?_
          refine lv_iadd hx hb d_Text_passesDigits_65 ?_
          refine va_put (D := D) (ci := 1) (v := .int (tpl + 1)) (ty := .int) (C := R_Text) (T := F_Text) (N := 3) hx hb hts i_Text t_Text t_Text_ok n_Text hown hK hP hD hS 0 rfl rfl 2 (by decide) (hts _ iw_acadda54) (fun _ h9 => h9) rfl (by decide +kernel) rfl rfl (Nat.le_of_ble_eq_true rfl) d_Text_passesDigits_66 (fun H locs hP hD hS => ?_)
          have hP : va_P D classes [(qT, .inr (1, [.ref qTs, .int tlen, .int (tpl + 1)])), (qTs, .inl (cT 2, 300, .inl tsg))] H := hP
          have hD : va_D A [(qT, .inr (1, [.ref qTs, .int tlen, .int (tpl + 1)])), (qTs, .inl (cT 2, 300, .inl tsg))] := hD
          refine lv_goto (tgt := 5) hx hb d_Text_passesDigits_69 (by decide) ?_
          exact ih (x3 + 1) ((x4 * 10) + ((tsg tpl.toNatClampNeg) - 48)) (tpl + 1) hM _ _ _ hP hD hS (lv_sub hl [2, 3, 4, 0, 1] rfl)
set_option maxHeartbeats 4000000 in
set_option maxRecDepth 100000 in
theorem c_Text_passesDigits (l : Launch) (D : va_G) (cT : Nat → ClassId) (qT : Nat) (qTs : Nat) (tlen : Int32) (tpl : Int32) (tsg : Nat → Int32) (p1 : Int32) (p2 : Int32) {rr : Bool} {o_tpl : Int32} (hM : m_Text_passesDigits p1 p2 tlen tsg tpl = some (rr, o_tpl)) : Ct l y_Text_passesDigits (WS y_Text_passesDigits b_Text_passesDigits 5 (some .boolean)) rm_Text_passesDigits D cT [.ref qT, .int p1, .int p2] [(qT, .inr (1, [.ref qTs, .int tlen, .int tpl])), (qTs, .inl (cT 2, 300, .inl tsg))] (some (.int (bI rr))) [(qT, .inr (1, [.ref qTs, .int tlen, .int o_tpl])), (qTs, .inl (cT 2, 300, .inl tsg))] 0 0 := by
  intro sz
  refine Met.ofW (cc := b_Text_passesDigits) (maxL := 5) (ret := (some .boolean)) (by decide) rfl ?_
  intro p e s m args below meth c s₁ B hml hv
  obtain ⟨rfl, hsz, hP, hE, hD0⟩ := hv
  have hx := B.exec
  have hb := B.bytes
  have hr := B.returns
  have hts : ∀ w ∈ TB, w.before _ s = true := fun w h => atoms_spec (ws := WS y_Text_passesDigits b_Text_passesDigits 5 (some .boolean)) B.pre w (List.mem_cons_of_mem _ h)
  have hown : s.vm.findClass R_Text = some m.cls := findClass_of_methodNamed B.named
  have hlocks := B.notSynchronized
  have hK := hE.1
  have hN := hE.2
  subst hsz
  have hD := hD0.self (sz := s.heap.size)
  generalize hAe : va_A [(qT, .inr (1, [.ref qTs, .int tlen, .int tpl])), (qTs, .inl (cT 2, 300, .inl tsg))] s.heap.size = A at hD ⊢
  have hA : ∀ q : Nat, s.heap.size ≤ q → A q := fun q h => by rw [← hAe]; exact Or.inr h
  have hS : va_S A s.heap s.heap [] := va_S.rf
  have hl := lv_entry ([.ref qT, .int p1, .int p2]) (n := 5) (Nat.le_of_ble_eq_true rfl)
  rw [lg_entry_eq]
  generalize (lg_sl ([.ref qT, .int p1, .int p2]) ++ List.replicate (5 - (lg_sl ([.ref qT, .int p1, .int p2])).length) Slot.unset).toArray = ls at hl ⊢
  have hl : lv_has ls 5 [(0, .ref qT), (1, .int p1), (2, .int p2)] := hl
  have S : CallFix p m c b_Text_passesDigits 5 s _ TB R_Text := ⟨hx, hb, hml, hown, hts⟩
  unfold m_Text_passesDigits at hM
  refine lv_iconst (v := 0) hx hb d_Text_passesDigits_0 (by decide) ?_
  refine lv_istore_n (lv' := [(3, .int 0), (0, .ref qT), (1, .int p1), (2, .int p2)]) hx hb d_Text_passesDigits_1 rfl hl (by decide) rfl (fun ls hl => ?_)
  refine lv_iconst (v := 0) hx hb d_Text_passesDigits_2 (by decide) ?_
  refine lv_istore (lv' := [(4, .int 0), (3, .int 0), (0, .ref qT), (1, .int p1), (2, .int p2)]) hx hb d_Text_passesDigits_3 hl (by decide) rfl (fun ls hl => ?_)
  exact w_Text_passesDigits_5 S hr hlocks hE hA 2000 0 0 tpl hM _ _ _ hP hD hS (lv_sub hl [2, 3, 4, 1, 0] rfl)
def rm_Text_passesFactor : Room := { frames := 2, cells := 0, slots := 0, locals := 44 }
set_option maxHeartbeats 4000000 in
set_option maxRecDepth 100000 in
theorem c_Text_passesFactor (l : Launch) (D : va_G) (cT : Nat → ClassId) (qT : Nat) (qTs : Nat) (tlen : Int32) (tpl : Int32) (tsg : Nat → Int32) {rr : Bool} {o_tpl : Int32} (hM : m_Text_passesFactor tlen tsg tpl = some (rr, o_tpl)) : Ct l y_Text_passesFactor (WS y_Text_passesFactor b_Text_passesFactor 1 (some .boolean)) rm_Text_passesFactor D cT [.ref qT] [(qT, .inr (1, [.ref qTs, .int tlen, .int tpl])), (qTs, .inl (cT 2, 300, .inl tsg))] (some (.int (bI rr))) [(qT, .inr (1, [.ref qTs, .int tlen, .int o_tpl])), (qTs, .inl (cT 2, 300, .inl tsg))] 0 0 := by
  intro sz
  refine Met.ofW (cc := b_Text_passesFactor) (maxL := 1) (ret := (some .boolean)) (by decide) rfl ?_
  intro p e s m args below meth c s₁ B hml hv
  obtain ⟨rfl, hsz, hP, hE, hD0⟩ := hv
  have hx := B.exec
  have hb := B.bytes
  have hr := B.returns
  have hts : ∀ w ∈ TB, w.before _ s = true := fun w h => atoms_spec (ws := WS y_Text_passesFactor b_Text_passesFactor 1 (some .boolean)) B.pre w (List.mem_cons_of_mem _ h)
  have hown : s.vm.findClass R_Text = some m.cls := findClass_of_methodNamed B.named
  have hlocks := B.notSynchronized
  have hK := hE.1
  have hN := hE.2
  subst hsz
  have hD := hD0.self (sz := s.heap.size)
  generalize hAe : va_A [(qT, .inr (1, [.ref qTs, .int tlen, .int tpl])), (qTs, .inl (cT 2, 300, .inl tsg))] s.heap.size = A at hD ⊢
  have hA : ∀ q : Nat, s.heap.size ≤ q → A q := fun q h => by rw [← hAe]; exact Or.inr h
  have hS : va_S A s.heap s.heap [] := va_S.rf
  have hl := lv_entry ([.ref qT]) (n := 1) (Nat.le_of_ble_eq_true rfl)
  rw [lg_entry_eq]
  generalize (lg_sl ([.ref qT]) ++ List.replicate (1 - (lg_sl ([.ref qT])).length) Slot.unset).toArray = ls at hl ⊢
  have hl : lv_has ls 1 [(0, .ref qT)] := hl
  have S : CallFix p m c b_Text_passesFactor 1 s _ TB R_Text := ⟨hx, hb, hml, hown, hts⟩
  unfold m_Text_passesFactor at hM
  refine lv_aload_n hx hb d_Text_passesFactor_0 rfl (lv_at hl 0 rfl) ?_
  refine lv_bipush (v := 86) hx hb d_Text_passesFactor_1 (by decide) ?_
  obtain ⟨r_3, tpl_3, hc_3, hM⟩ := bd2T hM
  refine ca_V (As := [.int 86]) (rest := []) (wr := []) (w2 := [(qT, .inr (1, [.ref qTs, .int tlen, .int tpl_3])), (qTs, .inl (cT 2, 300, .inl tsg))]) S hE (c_Text_passesSign l D cT qT qTs tlen tpl tsg 86 hc_3) gw_e34063ef rfl rfl ⟨Nat.le_of_ble_eq_true rfl, Nat.le_of_ble_eq_true rfl⟩ (ci := 1) rfl rfl (k0 := 0) rfl rfl hl.1 rfl (Nat.le_of_ble_eq_true rfl) d_Text_passesFactor_3 ⟨Nat.zero_le _, Nat.zero_le _⟩ hP hD hS hA [0, 1] [] [0, 1] rfl rfl (by decide) (by decide) rfl (by decide) (by decide) (fun H locs hP hD hS => ?_)
  refine lv_if_eq (tgt := 17) hx hb d_Text_passesFactor_6 (by decide) (fun c_6 => ?_) (fun c_6 => ?_)
  · have hM := itT hM c_6
    refine lv_aload_n hx hb d_Text_passesFactor_17 rfl (lv_at hl 0 rfl) ?_
    refine lv_bipush (v := 80) hx hb d_Text_passesFactor_18 (by decide) ?_
    obtain ⟨r_20, tpl_20, hc_20, hM⟩ := bd2T hM
    refine ca_V (As := [.int 80]) (rest := []) (wr := []) (w2 := [(qT, .inr (1, [.ref qTs, .int tlen, .int tpl_20])), (qTs, .inl (cT 2, 300, .inl tsg))]) S hE (c_Text_passesSign l D cT qT qTs tlen tpl_3 tsg 80 hc_20) gw_e34063ef rfl rfl ⟨Nat.le_of_ble_eq_true rfl, Nat.le_of_ble_eq_true rfl⟩ (ci := 1) rfl rfl (k0 := 0) rfl rfl hl.1 rfl (Nat.le_of_ble_eq_true rfl) d_Text_passesFactor_20 ⟨Nat.zero_le _, Nat.zero_le _⟩ hP hD hS hA [0, 1] [] [0, 1] rfl rfl (by decide) (by decide) rfl (by decide) (by decide) (fun H locs hP hD hS => ?_)
    refine lv_if_eq (tgt := 34) hx hb d_Text_passesFactor_23 (by decide) (fun c_23 => ?_) (fun c_23 => ?_)
    · have hM := itT hM c_23
      refine lv_aload_n hx hb d_Text_passesFactor_34 rfl (lv_at hl 0 rfl) ?_
      refine lv_bipush (v := 87) hx hb d_Text_passesFactor_35 (by decide) ?_
      obtain ⟨r_37, tpl_37, hc_37, hM⟩ := bd2T hM
      refine ca_V (As := [.int 87]) (rest := []) (wr := []) (w2 := [(qT, .inr (1, [.ref qTs, .int tlen, .int tpl_37])), (qTs, .inl (cT 2, 300, .inl tsg))]) S hE (c_Text_passesSign l D cT qT qTs tlen tpl_20 tsg 87 hc_37) gw_e34063ef rfl rfl ⟨Nat.le_of_ble_eq_true rfl, Nat.le_of_ble_eq_true rfl⟩ (ci := 1) rfl rfl (k0 := 0) rfl rfl hl.1 rfl (Nat.le_of_ble_eq_true rfl) d_Text_passesFactor_37 ⟨Nat.zero_le _, Nat.zero_le _⟩ hP hD hS hA [0, 1] [] [0, 1] rfl rfl (by decide) (by decide) rfl (by decide) (by decide) (fun H locs hP hD hS => ?_)
      refine lv_if_ne (tgt := 70) hx hb d_Text_passesFactor_40 (by decide) (fun c_40 => ?_) (fun c_40 => ?_)
      · have hM := itF hM c_40
        refine lv_iconst (v := 1) hx hb d_Text_passesFactor_70 (by decide) ?_
        refine lv_goto (tgt := 75) hx hb d_Text_passesFactor_71 (by decide) ?_
        obtain ⟨eo0, eo1⟩ := so2T hM
        subst eo0
        subst eo1
        exact rt_z S hr hlocks hP hD hS d_Text_passesFactor_75
      · have hM := itT hM c_40
        refine lv_aload_n hx hb d_Text_passesFactor_43 rfl (lv_at hl 0 rfl) ?_
        refine lv_bipush (v := 67) hx hb d_Text_passesFactor_44 (by decide) ?_
        obtain ⟨r_46, tpl_46, hc_46, hM⟩ := bd2T hM
        refine ca_V (As := [.int 67]) (rest := []) (wr := []) (w2 := [(qT, .inr (1, [.ref qTs, .int tlen, .int tpl_46])), (qTs, .inl (cT 2, 300, .inl tsg))]) S hE (c_Text_passesSign l D cT qT qTs tlen tpl_37 tsg 67 hc_46) gw_e34063ef rfl rfl ⟨Nat.le_of_ble_eq_true rfl, Nat.le_of_ble_eq_true rfl⟩ (ci := 1) rfl rfl (k0 := 0) rfl rfl hl.1 rfl (Nat.le_of_ble_eq_true rfl) d_Text_passesFactor_46 ⟨Nat.zero_le _, Nat.zero_le _⟩ hP hD hS hA [0, 1] [] [0, 1] rfl rfl (by decide) (by decide) rfl (by decide) (by decide) (fun H locs hP hD hS => ?_)
        refine lv_if_ne (tgt := 70) hx hb d_Text_passesFactor_49 (by decide) (fun c_49 => ?_) (fun c_49 => ?_)
        · have hM := itF hM c_49
          refine lv_iconst (v := 1) hx hb d_Text_passesFactor_70 (by decide) ?_
          refine lv_goto (tgt := 75) hx hb d_Text_passesFactor_71 (by decide) ?_
          obtain ⟨eo0, eo1⟩ := so2T hM
          subst eo0
          subst eo1
          exact rt_z S hr hlocks hP hD hS d_Text_passesFactor_75
        · have hM := itT hM c_49
          refine lv_aload_n hx hb d_Text_passesFactor_52 rfl (lv_at hl 0 rfl) ?_
          refine lv_bipush (v := 72) hx hb d_Text_passesFactor_53 (by decide) ?_
          obtain ⟨r_55, tpl_55, hc_55, hM⟩ := bd2T hM
          refine ca_V (As := [.int 72]) (rest := []) (wr := []) (w2 := [(qT, .inr (1, [.ref qTs, .int tlen, .int tpl_55])), (qTs, .inl (cT 2, 300, .inl tsg))]) S hE (c_Text_passesSign l D cT qT qTs tlen tpl_46 tsg 72 hc_55) gw_e34063ef rfl rfl ⟨Nat.le_of_ble_eq_true rfl, Nat.le_of_ble_eq_true rfl⟩ (ci := 1) rfl rfl (k0 := 0) rfl rfl hl.1 rfl (Nat.le_of_ble_eq_true rfl) d_Text_passesFactor_55 ⟨Nat.zero_le _, Nat.zero_le _⟩ hP hD hS hA [0, 1] [] [0, 1] rfl rfl (by decide) (by decide) rfl (by decide) (by decide) (fun H locs hP hD hS => ?_)
          refine lv_if_ne (tgt := 70) hx hb d_Text_passesFactor_58 (by decide) (fun c_58 => ?_) (fun c_58 => ?_)
          · have hM := itF hM c_58
            refine lv_iconst (v := 1) hx hb d_Text_passesFactor_70 (by decide) ?_
            refine lv_goto (tgt := 75) hx hb d_Text_passesFactor_71 (by decide) ?_
            obtain ⟨eo0, eo1⟩ := so2T hM
            subst eo0
            subst eo1
            exact rt_z S hr hlocks hP hD hS d_Text_passesFactor_75
          · have hM := itT hM c_58
            refine lv_aload_n hx hb d_Text_passesFactor_61 rfl (lv_at hl 0 rfl) ?_
            refine lv_bipush (v := 83) hx hb d_Text_passesFactor_62 (by decide) ?_
            obtain ⟨r_64, tpl_64, hc_64, hM⟩ := bd2T hM
            refine ca_V (As := [.int 83]) (rest := []) (wr := []) (w2 := [(qT, .inr (1, [.ref qTs, .int tlen, .int tpl_64])), (qTs, .inl (cT 2, 300, .inl tsg))]) S hE (c_Text_passesSign l D cT qT qTs tlen tpl_55 tsg 83 hc_64) gw_e34063ef rfl rfl ⟨Nat.le_of_ble_eq_true rfl, Nat.le_of_ble_eq_true rfl⟩ (ci := 1) rfl rfl (k0 := 0) rfl rfl hl.1 rfl (Nat.le_of_ble_eq_true rfl) d_Text_passesFactor_64 ⟨Nat.zero_le _, Nat.zero_le _⟩ hP hD hS hA [0, 1] [] [0, 1] rfl rfl (by decide) (by decide) rfl (by decide) (by decide) (fun H locs hP hD hS => ?_)
            refine lv_if_eq (tgt := 74) hx hb d_Text_passesFactor_67 (by decide) (fun c_67 => ?_) (fun c_67 => ?_)
            · have hM := itT hM c_67
              refine lv_iconst (v := 0) hx hb d_Text_passesFactor_74 (by decide) ?_
              obtain ⟨eo0, eo1⟩ := so2T hM
              subst eo0
              subst eo1
              exact rt_z S hr hlocks hP hD hS d_Text_passesFactor_75
            · have hM := itF hM c_67
              refine lv_iconst (v := 1) hx hb d_Text_passesFactor_70 (by decide) ?_
              refine lv_goto (tgt := 75) hx hb d_Text_passesFactor_71 (by decide) ?_
              obtain ⟨eo0, eo1⟩ := so2T hM
              subst eo0
              subst eo1
              exact rt_z S hr hlocks hP hD hS d_Text_passesFactor_75
    · have hM := itF hM c_23
      refine lv_aload_n hx hb d_Text_passesFactor_26 rfl (lv_at hl 0 rfl) ?_
      refine lv_iconst (v := 2) hx hb d_Text_passesFactor_27 (by decide) ?_
      refine lv_bipush (v := 15) hx hb d_Text_passesFactor_28 (by decide) ?_
      obtain ⟨r_30, tpl_30, hc_30, hM⟩ := bd2T hM
      refine ca_V (As := [.int 2, .int 15]) (rest := []) (wr := []) (w2 := [(qT, .inr (1, [.ref qTs, .int tlen, .int tpl_30])), (qTs, .inl (cT 2, 300, .inl tsg))]) S hE (c_Text_passesDigits l D cT qT qTs tlen tpl_20 tsg 2 15 hc_30) gw_0ad72b6e rfl rfl ⟨Nat.le_of_ble_eq_true rfl, Nat.le_of_ble_eq_true rfl⟩ (ci := 1) rfl rfl (k0 := 0) rfl rfl hl.1 rfl (Nat.le_of_ble_eq_true rfl) d_Text_passesFactor_30 ⟨Nat.zero_le _, Nat.zero_le _⟩ hP hD hS hA [0, 1] [] [0, 1] rfl rfl (by decide) (by decide) rfl (by decide) (by decide) (fun H locs hP hD hS => ?_)
      obtain ⟨eo0, eo1⟩ := so2T hM
      subst eo0
      subst eo1
      exact rt_z S hr hlocks hP hD hS d_Text_passesFactor_33
  · have hM := itF hM c_6
    refine lv_aload_n hx hb d_Text_passesFactor_9 rfl (lv_at hl 0 rfl) ?_
    refine lv_iconst (v := 3) hx hb d_Text_passesFactor_10 (by decide) ?_
    refine lv_bipush (v := 100) hx hb d_Text_passesFactor_11 (by decide) ?_
    obtain ⟨r_13, tpl_13, hc_13, hM⟩ := bd2T hM
    refine ca_V (As := [.int 3, .int 100]) (rest := []) (wr := []) (w2 := [(qT, .inr (1, [.ref qTs, .int tlen, .int tpl_13])), (qTs, .inl (cT 2, 300, .inl tsg))]) S hE (c_Text_passesDigits l D cT qT qTs tlen tpl_3 tsg 3 100 hc_13) gw_0ad72b6e rfl rfl ⟨Nat.le_of_ble_eq_true rfl, Nat.le_of_ble_eq_true rfl⟩ (ci := 1) rfl rfl (k0 := 0) rfl rfl hl.1 rfl (Nat.le_of_ble_eq_true rfl) d_Text_passesFactor_13 ⟨Nat.zero_le _, Nat.zero_le _⟩ hP hD hS hA [0, 1] [] [0, 1] rfl rfl (by decide) (by decide) rfl (by decide) (by decide) (fun H locs hP hD hS => ?_)
    obtain ⟨eo0, eo1⟩ := so2T hM
    subst eo0
    subst eo1
    exact rt_z S hr hlocks hP hD hS d_Text_passesFactor_16
def rm_Text_passesRule : Room := { frames := 3, cells := 0, slots := 0, locals := 64 }
set_option maxHeartbeats 4000000 in
set_option maxRecDepth 100000 in
theorem w_Text_passesRule_76 {p : Program} {l : Launch} {e : Env} {s : State} {m : MethodId} {args : Array Value} {below : List Frame} {meth : Method} {c : Code} {D : va_G} {cT : Nat → ClassId} {A : Nat → Prop} (S : CallFix p m c b_Text_passesRule 3 s args TB R_Text) (hr : meth.sig.returnType = (some .boolean)) (hlocks : meth.locks = false) (hE : EN D cT s) (hA : ∀ q, s.heap.size ≤ q → A q) {qT : Nat} {qTs : Nat} {tlen : Int32} {tsg : Nat → Int32} {rr : Bool} {o_tpl : Int32} {Ko4 : Int32 → Int32 → Int32 → Option (Bool × Int32)} (hKo4 : ∀ (x1 : Int32) (x2 : Int32) (tpl : Int32), Ko4 x1 x2 tpl = some (rr, o_tpl) → ∀ (H : Heap) (locs : List Loc) (ls : Array Slot), va_P D classes [(qT, .inr (1, [.ref qTs, .int tlen, .int tpl])), (qTs, .inl (cT 2, 300, .inl tsg))] H → va_D A [(qT, .inr (1, [.ref qTs, .int tlen, .int tpl])), (qTs, .inl (cT 2, 300, .inl tsg))] → va_S A s.heap H locs → lv_has ls 3 [(0, .ref qT), (1, .int x1), (2, .int x2)] → W p l e (headSpec (WS y_Text_passesRule b_Text_passesRule 3 (some .boolean)) rm_Text_passesRule).room s m args below meth c H locs 0 0 (MQ below (qW D A [(qT, .inr (1, [.ref qTs, .int tlen, .int o_tpl])), (qTs, .inl (cT 2, 300, .inl tsg))] (some (.int (bI rr)))) args s 0 0 A) (F0 m 4 ls [])) : ∀ (x1 : Int32) (x2 : Int32) (tpl : Int32), k_Text_passesRule_76 tlen tsg Ko4 x1 x2 tpl = some (rr, o_tpl) → ∀ (H : Heap) (locs : List Loc) (ls : Array Slot), va_P D classes [(qT, .inr (1, [.ref qTs, .int tlen, .int tpl])), (qTs, .inl (cT 2, 300, .inl tsg))] H → va_D A [(qT, .inr (1, [.ref qTs, .int tlen, .int tpl])), (qTs, .inl (cT 2, 300, .inl tsg))] → va_S A s.heap H locs → lv_has ls 3 [(0, .ref qT), (1, .int x1), (2, .int x2)] → W p l e (headSpec (WS y_Text_passesRule b_Text_passesRule 3 (some .boolean)) rm_Text_passesRule).room s m args below meth c H locs 0 0 (MQ below (qW D A [(qT, .inr (1, [.ref qTs, .int tlen, .int o_tpl])), (qTs, .inl (cT 2, 300, .inl tsg))] (some (.int (bI rr)))) args s 0 0 A) (F0 m 76 ls []) := by
  obtain ⟨hx, hb, hml, hown, hts⟩ := id S
  have hK := hE.1
  have hN := hE.2
  intro x1 x2 tpl hM H locs ls hP hD hS hl
  unfold k_Text_passesRule_76 at hM
  refine lv_aload_n hx hb d_Text_passesRule_76 rfl (lv_at hl 0 rfl) ?_
  refine lv_bipush (v := 38) hx hb d_Text_passesRule_77 (by decide) ?_
  obtain ⟨r_79, tpl_79, hc_79, hM⟩ := bd2T hM
  refine ca_V (As := [.int 38]) (rest := []) (wr := []) (w2 := [(qT, .inr (1, [.ref qTs, .int tlen, .int tpl_79])), (qTs, .inl (cT 2, 300, .inl tsg))]) S hE (c_Text_passesSign l D cT qT qTs tlen tpl tsg 38 hc_79) gw_e34063ef rfl rfl ⟨Nat.le_of_ble_eq_true rfl, Nat.le_of_ble_eq_true rfl⟩ (ci := 1) rfl rfl (k0 := 0) rfl rfl hl.1 rfl (Nat.le_of_ble_eq_true rfl) d_Text_passesRule_79 ⟨Nat.zero_le _, Nat.zero_le _⟩ hP hD hS hA [0, 1] [] [0, 1] rfl rfl (by decide) (by decide) rfl (by decide) (by decide) (fun H locs hP hD hS => ?_)
  refine lv_if_ne (tgt := 96) hx hb d_Text_passesRule_82 (by decide) (fun c_82 => ?_) (fun c_82 => ?_)
  · have hM := itF hM c_82
    refine lv_iinc (v := x2 + 1) (lv' := [(2, .int (x2 + 1)), (0, .ref qT), (1, .int x1)]) hx hb d_Text_passesRule_96 hl (k := 2) rfl rfl (by decide) rfl (fun ls hl => ?_)
    refine lv_goto (tgt := 4) hx hb d_Text_passesRule_99 (by decide) ?_
    exact hKo4 x1 (x2 + 1) tpl_79 hM _ _ _ hP hD hS (lv_sub hl [1, 2, 0] rfl)
  · have hM := itT hM c_82
    refine lv_aload_n hx hb d_Text_passesRule_85 rfl (lv_at hl 0 rfl) ?_
    refine lv_bipush (v := 124) hx hb d_Text_passesRule_86 (by decide) ?_
    obtain ⟨r_88, tpl_88, hc_88, hM⟩ := bd2T hM
    refine ca_V (As := [.int 124]) (rest := []) (wr := []) (w2 := [(qT, .inr (1, [.ref qTs, .int tlen, .int tpl_88])), (qTs, .inl (cT 2, 300, .inl tsg))]) S hE (c_Text_passesSign l D cT qT qTs tlen tpl_79 tsg 124 hc_88) gw_e34063ef rfl rfl ⟨Nat.le_of_ble_eq_true rfl, Nat.le_of_ble_eq_true rfl⟩ (ci := 1) rfl rfl (k0 := 0) rfl rfl hl.1 rfl (Nat.le_of_ble_eq_true rfl) d_Text_passesRule_88 ⟨Nat.zero_le _, Nat.zero_le _⟩ hP hD hS hA [0, 1] [] [0, 1] rfl rfl (by decide) (by decide) rfl (by decide) (by decide) (fun H locs hP hD hS => ?_)
    refine lv_if_ne (tgt := 96) hx hb d_Text_passesRule_91 (by decide) (fun c_91 => ?_) (fun c_91 => ?_)
    · have hM := itF hM c_91
      refine lv_iinc (v := x2 + 1) (lv' := [(2, .int (x2 + 1)), (0, .ref qT), (1, .int x1)]) hx hb d_Text_passesRule_96 hl (k := 2) rfl rfl (by decide) rfl (fun ls hl => ?_)
      refine lv_goto (tgt := 4) hx hb d_Text_passesRule_99 (by decide) ?_
      exact hKo4 x1 (x2 + 1) tpl_88 hM _ _ _ hP hD hS (lv_sub hl [1, 2, 0] rfl)
    · have hM := itT hM c_91
      refine lv_iconst (v := 0) hx hb d_Text_passesRule_94 (by decide) ?_
      obtain ⟨eo0, eo1⟩ := so2T hM
      subst eo0
      subst eo1
      exact rt_z S hr hlocks hP hD hS d_Text_passesRule_95
set_option maxHeartbeats 4000000 in
set_option maxRecDepth 100000 in
theorem w_Text_passesRule_61 {p : Program} {l : Launch} {e : Env} {s : State} {m : MethodId} {args : Array Value} {below : List Frame} {meth : Method} {c : Code} {D : va_G} {cT : Nat → ClassId} {A : Nat → Prop} (S : CallFix p m c b_Text_passesRule 3 s args TB R_Text) (hr : meth.sig.returnType = (some .boolean)) (hlocks : meth.locks = false) (hE : EN D cT s) (hA : ∀ q, s.heap.size ≤ q → A q) {qT : Nat} {qTs : Nat} {tlen : Int32} {tsg : Nat → Int32} {rr : Bool} {o_tpl : Int32} {Ko4 : Int32 → Int32 → Int32 → Option (Bool × Int32)} (hKo4 : ∀ (x1 : Int32) (x2 : Int32) (tpl : Int32), Ko4 x1 x2 tpl = some (rr, o_tpl) → ∀ (H : Heap) (locs : List Loc) (ls : Array Slot), va_P D classes [(qT, .inr (1, [.ref qTs, .int tlen, .int tpl])), (qTs, .inl (cT 2, 300, .inl tsg))] H → va_D A [(qT, .inr (1, [.ref qTs, .int tlen, .int tpl])), (qTs, .inl (cT 2, 300, .inl tsg))] → va_S A s.heap H locs → lv_has ls 3 [(0, .ref qT), (1, .int x1), (2, .int x2)] → W p l e (headSpec (WS y_Text_passesRule b_Text_passesRule 3 (some .boolean)) rm_Text_passesRule).room s m args below meth c H locs 0 0 (MQ below (qW D A [(qT, .inr (1, [.ref qTs, .int tlen, .int o_tpl])), (qTs, .inl (cT 2, 300, .inl tsg))] (some (.int (bI rr)))) args s 0 0 A) (F0 m 4 ls [])) : ∀ (x1 : Int32) (x2 : Int32) (tpl : Int32), k_Text_passesRule_61 tlen tsg Ko4 x1 x2 tpl = some (rr, o_tpl) → ∀ (H : Heap) (locs : List Loc) (ls : Array Slot), va_P D classes [(qT, .inr (1, [.ref qTs, .int tlen, .int tpl])), (qTs, .inl (cT 2, 300, .inl tsg))] H → va_D A [(qT, .inr (1, [.ref qTs, .int tlen, .int tpl])), (qTs, .inl (cT 2, 300, .inl tsg))] → va_S A s.heap H locs → lv_has ls 3 [(0, .ref qT), (1, .int x1), (2, .int x2)] → W p l e (headSpec (WS y_Text_passesRule b_Text_passesRule 3 (some .boolean)) rm_Text_passesRule).room s m args below meth c H locs 0 0 (MQ below (qW D A [(qT, .inr (1, [.ref qTs, .int tlen, .int o_tpl])), (qTs, .inl (cT 2, 300, .inl tsg))] (some (.int (bI rr)))) args s 0 0 A) (F0 m 61 ls []) := by
  obtain ⟨hx, hb, hml, hown, hts⟩ := id S
  have hK := hE.1
  have hN := hE.2
  intro x1 x2 tpl hM H locs ls hP hD hS hl
  unfold k_Text_passesRule_61 at hM
  refine lv_iload_n hx hb d_Text_passesRule_61 rfl (lv_at hl 1 rfl) ?_
  refine lv_if_ne (tgt := 76) hx hb d_Text_passesRule_62 (by decide) (fun c_62 => ?_) (fun c_62 => ?_)
  · have hM := itF hM c_62
    exact w_Text_passesRule_76 S hr hlocks hE hA (hKo4)  x1 x2 tpl hM _ _ _ hP hD hS (lv_sub hl [0, 1, 2] rfl)
  · have hM := itT hM c_62
    refine lv_aload_n hx hb d_Text_passesRule_65 rfl (lv_at hl 0 rfl) ?_
    refine lv_bipush (v := 59) hx hb d_Text_passesRule_66 (by decide) ?_
    obtain ⟨r_68, tpl_68, hc_68, hM⟩ := bd2T hM
    refine ca_V (As := [.int 59]) (rest := []) (wr := []) (w2 := [(qT, .inr (1, [.ref qTs, .int tlen, .int tpl_68])), (qTs, .inl (cT 2, 300, .inl tsg))]) S hE (c_Text_passesSign l D cT qT qTs tlen tpl tsg 59 hc_68) gw_e34063ef rfl rfl ⟨Nat.le_of_ble_eq_true rfl, Nat.le_of_ble_eq_true rfl⟩ (ci := 1) rfl rfl (k0 := 0) rfl rfl hl.1 rfl (Nat.le_of_ble_eq_true rfl) d_Text_passesRule_68 ⟨Nat.zero_le _, Nat.zero_le _⟩ hP hD hS hA [0, 1] [] [0, 1] rfl rfl (by decide) (by decide) rfl (by decide) (by decide) (fun H locs hP hD hS => ?_)
    refine lv_if_eq (tgt := 76) hx hb d_Text_passesRule_71 (by decide) (fun c_71 => ?_) (fun c_71 => ?_)
    · have hM := itT hM c_71
      exact w_Text_passesRule_76 S hr hlocks hE hA (hKo4)  x1 x2 tpl_68 hM _ _ _ hP hD hS (lv_sub hl [0, 1, 2] rfl)
    · have hM := itF hM c_71
      refine lv_iconst (v := 1) hx hb d_Text_passesRule_74 (by decide) ?_
      obtain ⟨eo0, eo1⟩ := so2T hM
      subst eo0
      subst eo1
      exact rt_z S hr hlocks hP hD hS d_Text_passesRule_75
set_option maxHeartbeats 4000000 in
set_option maxRecDepth 100000 in
theorem w_Text_passesRule_42 {p : Program} {l : Launch} {e : Env} {s : State} {m : MethodId} {args : Array Value} {below : List Frame} {meth : Method} {c : Code} {D : va_G} {cT : Nat → ClassId} {A : Nat → Prop} (S : CallFix p m c b_Text_passesRule 3 s args TB R_Text) (hr : meth.sig.returnType = (some .boolean)) (hlocks : meth.locks = false) (hE : EN D cT s) (hA : ∀ q, s.heap.size ≤ q → A q) {qT : Nat} {qTs : Nat} {tlen : Int32} {tsg : Nat → Int32} {rr : Bool} {o_tpl : Int32} {Ko4 : Int32 → Int32 → Int32 → Option (Bool × Int32)} (hKo4 : ∀ (x1 : Int32) (x2 : Int32) (tpl : Int32), Ko4 x1 x2 tpl = some (rr, o_tpl) → ∀ (H : Heap) (locs : List Loc) (ls : Array Slot), va_P D classes [(qT, .inr (1, [.ref qTs, .int tlen, .int tpl])), (qTs, .inl (cT 2, 300, .inl tsg))] H → va_D A [(qT, .inr (1, [.ref qTs, .int tlen, .int tpl])), (qTs, .inl (cT 2, 300, .inl tsg))] → va_S A s.heap H locs → lv_has ls 3 [(0, .ref qT), (1, .int x1), (2, .int x2)] → W p l e (headSpec (WS y_Text_passesRule b_Text_passesRule 3 (some .boolean)) rm_Text_passesRule).room s m args below meth c H locs 0 0 (MQ below (qW D A [(qT, .inr (1, [.ref qTs, .int tlen, .int o_tpl])), (qTs, .inl (cT 2, 300, .inl tsg))] (some (.int (bI rr)))) args s 0 0 A) (F0 m 4 ls [])) : ∀ (n : Nat) (x1 : Int32) (x2 : Int32) (tpl : Int32), k_Text_passesRule_42 tlen tsg Ko4 n x1 x2 tpl = some (rr, o_tpl) → ∀ (H : Heap) (locs : List Loc) (ls : Array Slot), va_P D classes [(qT, .inr (1, [.ref qTs, .int tlen, .int tpl])), (qTs, .inl (cT 2, 300, .inl tsg))] H → va_D A [(qT, .inr (1, [.ref qTs, .int tlen, .int tpl])), (qTs, .inl (cT 2, 300, .inl tsg))] → va_S A s.heap H locs → lv_has ls 3 [(0, .ref qT), (1, .int x1), (2, .int x2)] → W p l e (headSpec (WS y_Text_passesRule b_Text_passesRule 3 (some .boolean)) rm_Text_passesRule).room s m args below meth c H locs 0 0 (MQ below (qW D A [(qT, .inr (1, [.ref qTs, .int tlen, .int o_tpl])), (qTs, .inl (cT 2, 300, .inl tsg))] (some (.int (bI rr)))) args s 0 0 A) (F0 m 42 ls []) := by
  obtain ⟨hx, hb, hml, hown, hts⟩ := id S
  have hK := hE.1
  have hN := hE.2
  intro n
  induction n with
  | zero =>
    intro x1 x2 tpl hM
    rw [k_Text_passesRule_42_z] at hM
    cases hM
  | succ n ih =>
    intro x1 x2 tpl hM H locs ls hP hD hS hl
    rw [k_Text_passesRule_42_s] at hM
    refine lv_iload_n hx hb d_Text_passesRule_42 rfl (lv_at hl 1 rfl) ?_
    refine lv_if_le (tgt := 61) hx hb d_Text_passesRule_43 (by decide) (fun c_43 => ?_) (fun c_43 => ?_)
    · have hM := itT hM c_43
      exact w_Text_passesRule_61 S hr hlocks hE hA (hKo4)  x1 x2 tpl hM _ _ _ hP hD hS (lv_sub hl [0, 1, 2] rfl)
    · have hM := itF hM c_43
      refine lv_aload_n hx hb d_Text_passesRule_46 rfl (lv_at hl 0 rfl) ?_
      refine lv_bipush (v := 41) hx hb d_Text_passesRule_47 (by decide) ?_
      obtain ⟨r_49, tpl_49, hc_49, hM⟩ := bd2T hM
      refine ca_V (As := [.int 41]) (rest := []) (wr := []) (w2 := [(qT, .inr (1, [.ref qTs, .int tlen, .int tpl_49])), (qTs, .inl (cT 2, 300, .inl tsg))]) S hE (c_Text_passesSign l D cT qT qTs tlen tpl tsg 41 hc_49) gw_e34063ef rfl rfl ⟨Nat.le_of_ble_eq_true rfl, Nat.le_of_ble_eq_true rfl⟩ (ci := 1) rfl rfl (k0 := 0) rfl rfl hl.1 rfl (Nat.le_of_ble_eq_true rfl) d_Text_passesRule_49 ⟨Nat.zero_le _, Nat.zero_le _⟩ hP hD hS hA [0, 1] [] [0, 1] rfl rfl (by decide) (by decide) rfl (by decide) (by decide) (fun H locs hP hD hS => ?_)
      refine lv_if_eq (tgt := 61) hx hb d_Text_passesRule_52 (by decide) (fun c_52 => ?_) (fun c_52 => ?_)
      · have hM := itT hM c_52
        exact w_Text_passesRule_61 S hr hlocks hE hA (hKo4)  x1 x2 tpl_49 hM _ _ _ hP hD hS (lv_sub hl [0, 1, 2] rfl)
      · have hM := itF hM c_52
        refine lv_iinc (v := x1 + (-1)) (lv' := [(1, .int (x1 + (-1))), (0, .ref qT), (2, .int x2)]) hx hb d_Text_passesRule_55 hl (k := 1) rfl rfl (by decide) rfl (fun ls hl => ?_)
        refine lv_goto (tgt := 42) hx hb d_Text_passesRule_58 (by decide) ?_
        exact ih (x1 + (-1)) x2 tpl_49 hM _ _ _ hP hD hS (lv_sub hl [1, 0, 2] rfl)
set_option maxHeartbeats 4000000 in
set_option maxRecDepth 100000 in
theorem w_Text_passesRule_12 {p : Program} {l : Launch} {e : Env} {s : State} {m : MethodId} {args : Array Value} {below : List Frame} {meth : Method} {c : Code} {D : va_G} {cT : Nat → ClassId} {A : Nat → Prop} (S : CallFix p m c b_Text_passesRule 3 s args TB R_Text) (hr : meth.sig.returnType = (some .boolean)) (hlocks : meth.locks = false) (hE : EN D cT s) (hA : ∀ q, s.heap.size ≤ q → A q) {qT : Nat} {qTs : Nat} {tlen : Int32} {tsg : Nat → Int32} {rr : Bool} {o_tpl : Int32} {Ko4 : Int32 → Int32 → Int32 → Option (Bool × Int32)} (hKo4 : ∀ (x1 : Int32) (x2 : Int32) (tpl : Int32), Ko4 x1 x2 tpl = some (rr, o_tpl) → ∀ (H : Heap) (locs : List Loc) (ls : Array Slot), va_P D classes [(qT, .inr (1, [.ref qTs, .int tlen, .int tpl])), (qTs, .inl (cT 2, 300, .inl tsg))] H → va_D A [(qT, .inr (1, [.ref qTs, .int tlen, .int tpl])), (qTs, .inl (cT 2, 300, .inl tsg))] → va_S A s.heap H locs → lv_has ls 3 [(0, .ref qT), (1, .int x1), (2, .int x2)] → W p l e (headSpec (WS y_Text_passesRule b_Text_passesRule 3 (some .boolean)) rm_Text_passesRule).room s m args below meth c H locs 0 0 (MQ below (qW D A [(qT, .inr (1, [.ref qTs, .int tlen, .int o_tpl])), (qTs, .inl (cT 2, 300, .inl tsg))] (some (.int (bI rr)))) args s 0 0 A) (F0 m 4 ls [])) : ∀ (n : Nat) (x1 : Int32) (x2 : Int32) (tpl : Int32), k_Text_passesRule_12 tlen tsg Ko4 n x1 x2 tpl = some (rr, o_tpl) → ∀ (H : Heap) (locs : List Loc) (ls : Array Slot), va_P D classes [(qT, .inr (1, [.ref qTs, .int tlen, .int tpl])), (qTs, .inl (cT 2, 300, .inl tsg))] H → va_D A [(qT, .inr (1, [.ref qTs, .int tlen, .int tpl])), (qTs, .inl (cT 2, 300, .inl tsg))] → va_S A s.heap H locs → lv_has ls 3 [(0, .ref qT), (1, .int x1), (2, .int x2)] → W p l e (headSpec (WS y_Text_passesRule b_Text_passesRule 3 (some .boolean)) rm_Text_passesRule).room s m args below meth c H locs 0 0 (MQ below (qW D A [(qT, .inr (1, [.ref qTs, .int tlen, .int o_tpl])), (qTs, .inl (cT 2, 300, .inl tsg))] (some (.int (bI rr)))) args s 0 0 A) (F0 m 12 ls []) := by
  obtain ⟨hx, hb, hml, hown, hts⟩ := id S
  have hK := hE.1
  have hN := hE.2
  intro n
  induction n with
  | zero =>
    intro x1 x2 tpl hM
    rw [k_Text_passesRule_12_z] at hM
    cases hM
  | succ n ih =>
    intro x1 x2 tpl hM H locs ls hP hD hS hl
    rw [k_Text_passesRule_12_s] at hM
    refine lv_iload_n hx hb d_Text_passesRule_12 rfl (lv_at hl 1 rfl) ?_
    refine lv_bipush (v := 8) hx hb d_Text_passesRule_13 (by decide) ?_
    refine lv_icmp_ge (tgt := 33) hx hb d_Text_passesRule_15 (by decide) (fun c_15 => ?_) (fun c_15 => ?_)
    · have hM := itT hM c_15
      refine lv_aload_n hx hb d_Text_passesRule_33 rfl (lv_at hl 0 rfl) ?_
      obtain ⟨r_34, tpl_34, hc_34, hM⟩ := bd2T hM
      refine ca_V (As := []) (rest := []) (wr := []) (w2 := [(qT, .inr (1, [.ref qTs, .int tlen, .int tpl_34])), (qTs, .inl (cT 2, 300, .inl tsg))]) S hE (c_Text_passesFactor l D cT qT qTs tlen tpl tsg hc_34) gw_4d338c41 rfl rfl ⟨Nat.le_of_ble_eq_true rfl, Nat.le_of_ble_eq_true rfl⟩ (ci := 1) rfl rfl (k0 := 0) rfl rfl hl.1 rfl (Nat.le_of_ble_eq_true rfl) d_Text_passesRule_34 ⟨Nat.zero_le _, Nat.zero_le _⟩ hP hD hS hA [0, 1] [] [0, 1] rfl rfl (by decide) (by decide) rfl (by decide) (by decide) (fun H locs hP hD hS => ?_)
      refine lv_if_ne (tgt := 42) hx hb d_Text_passesRule_37 (by decide) (fun c_37 => ?_) (fun c_37 => ?_)
      · have hM := itF hM c_37
        exact w_Text_passesRule_42 S hr hlocks hE hA (hKo4) 2000 x1 x2 tpl_34 hM _ _ _ hP hD hS (lv_sub hl [0, 1, 2] rfl)
      · have hM := itT hM c_37
        refine lv_iconst (v := 0) hx hb d_Text_passesRule_40 (by decide) ?_
        obtain ⟨eo0, eo1⟩ := so2T hM
        subst eo0
        subst eo1
        exact rt_z S hr hlocks hP hD hS d_Text_passesRule_41
    · have hM := itF hM c_15
      refine lv_aload_n hx hb d_Text_passesRule_18 rfl (lv_at hl 0 rfl) ?_
      refine lv_bipush (v := 40) hx hb d_Text_passesRule_19 (by decide) ?_
      obtain ⟨r_21, tpl_21, hc_21, hM⟩ := bd2T hM
      refine ca_V (As := [.int 40]) (rest := []) (wr := []) (w2 := [(qT, .inr (1, [.ref qTs, .int tlen, .int tpl_21])), (qTs, .inl (cT 2, 300, .inl tsg))]) S hE (c_Text_passesSign l D cT qT qTs tlen tpl tsg 40 hc_21) gw_e34063ef rfl rfl ⟨Nat.le_of_ble_eq_true rfl, Nat.le_of_ble_eq_true rfl⟩ (ci := 1) rfl rfl (k0 := 0) rfl rfl hl.1 rfl (Nat.le_of_ble_eq_true rfl) d_Text_passesRule_21 ⟨Nat.zero_le _, Nat.zero_le _⟩ hP hD hS hA [0, 1] [] [0, 1] rfl rfl (by decide) (by decide) rfl (by decide) (by decide) (fun H locs hP hD hS => ?_)
      refine lv_if_eq (tgt := 33) hx hb d_Text_passesRule_24 (by decide) (fun c_24 => ?_) (fun c_24 => ?_)
      · have hM := itT hM c_24
        refine lv_aload_n hx hb d_Text_passesRule_33 rfl (lv_at hl 0 rfl) ?_
        obtain ⟨r_34, tpl_34, hc_34, hM⟩ := bd2T hM
        refine ca_V (As := []) (rest := []) (wr := []) (w2 := [(qT, .inr (1, [.ref qTs, .int tlen, .int tpl_34])), (qTs, .inl (cT 2, 300, .inl tsg))]) S hE (c_Text_passesFactor l D cT qT qTs tlen tpl_21 tsg hc_34) gw_4d338c41 rfl rfl ⟨Nat.le_of_ble_eq_true rfl, Nat.le_of_ble_eq_true rfl⟩ (ci := 1) rfl rfl (k0 := 0) rfl rfl hl.1 rfl (Nat.le_of_ble_eq_true rfl) d_Text_passesRule_34 ⟨Nat.zero_le _, Nat.zero_le _⟩ hP hD hS hA [0, 1] [] [0, 1] rfl rfl (by decide) (by decide) rfl (by decide) (by decide) (fun H locs hP hD hS => ?_)
        refine lv_if_ne (tgt := 42) hx hb d_Text_passesRule_37 (by decide) (fun c_37 => ?_) (fun c_37 => ?_)
        · have hM := itF hM c_37
          exact w_Text_passesRule_42 S hr hlocks hE hA (hKo4) 2000 x1 x2 tpl_34 hM _ _ _ hP hD hS (lv_sub hl [0, 1, 2] rfl)
        · have hM := itT hM c_37
          refine lv_iconst (v := 0) hx hb d_Text_passesRule_40 (by decide) ?_
          obtain ⟨eo0, eo1⟩ := so2T hM
          subst eo0
          subst eo1
          exact rt_z S hr hlocks hP hD hS d_Text_passesRule_41
      · have hM := itF hM c_24
        refine lv_iinc (v := x1 + 1) (lv' := [(1, .int (x1 + 1)), (0, .ref qT), (2, .int x2)]) hx hb d_Text_passesRule_27 hl (k := 1) rfl rfl (by decide) rfl (fun ls hl => ?_)
        refine lv_goto (tgt := 12) hx hb d_Text_passesRule_30 (by decide) ?_
        exact ih (x1 + 1) x2 tpl_21 hM _ _ _ hP hD hS (lv_sub hl [1, 0, 2] rfl)
set_option maxHeartbeats 4000000 in
set_option maxRecDepth 100000 in
theorem w_Text_passesRule_4 {p : Program} {l : Launch} {e : Env} {s : State} {m : MethodId} {args : Array Value} {below : List Frame} {meth : Method} {c : Code} {D : va_G} {cT : Nat → ClassId} {A : Nat → Prop} (S : CallFix p m c b_Text_passesRule 3 s args TB R_Text) (hr : meth.sig.returnType = (some .boolean)) (hlocks : meth.locks = false) (hE : EN D cT s) (hA : ∀ q, s.heap.size ≤ q → A q) {qT : Nat} {qTs : Nat} {tlen : Int32} {tsg : Nat → Int32} {rr : Bool} {o_tpl : Int32} : ∀ (n : Nat) (x1 : Int32) (x2 : Int32) (tpl : Int32), k_Text_passesRule_4 tlen tsg  n x1 x2 tpl = some (rr, o_tpl) → ∀ (H : Heap) (locs : List Loc) (ls : Array Slot), va_P D classes [(qT, .inr (1, [.ref qTs, .int tlen, .int tpl])), (qTs, .inl (cT 2, 300, .inl tsg))] H → va_D A [(qT, .inr (1, [.ref qTs, .int tlen, .int tpl])), (qTs, .inl (cT 2, 300, .inl tsg))] → va_S A s.heap H locs → lv_has ls 3 [(0, .ref qT), (1, .int x1), (2, .int x2)] → W p l e (headSpec (WS y_Text_passesRule b_Text_passesRule 3 (some .boolean)) rm_Text_passesRule).room s m args below meth c H locs 0 0 (MQ below (qW D A [(qT, .inr (1, [.ref qTs, .int tlen, .int o_tpl])), (qTs, .inl (cT 2, 300, .inl tsg))] (some (.int (bI rr)))) args s 0 0 A) (F0 m 4 ls []) := by
  obtain ⟨hx, hb, hml, hown, hts⟩ := id S
  have hK := hE.1
  have hN := hE.2
  intro n
  induction n with
  | zero =>
    intro x1 x2 tpl hM
    rw [k_Text_passesRule_4_z] at hM
    cases hM
  | succ n ih =>
    intro x1 x2 tpl hM H locs ls hP hD hS hl
    rw [k_Text_passesRule_4_s] at hM
    refine lv_iload_n hx hb d_Text_passesRule_4 rfl (lv_at hl 2 rfl) ?_
    refine lv_aload_n hx hb d_Text_passesRule_5 rfl (lv_at hl 0 rfl) ?_
    refine va_get (D := D) (ci := 1) (v := .int tlen) (C := R_Text) (T := F_Text) (N := 3) hx hb hts i_Text hown hK hP 0 rfl rfl 1 (by decide) (hts _ iw_f5700a61) (fun _ h9 => h9) rfl d_Text_passesRule_6 ?_
    refine lv_icmp_ge (tgt := 102) hx hb d_Text_passesRule_9 (by decide) (fun c_9 => ?_) (fun c_9 => ?_)
    · have hM := itT hM c_9
      refine lv_iconst (v := 0) hx hb d_Text_passesRule_102 (by decide) ?_
      obtain ⟨eo0, eo1⟩ := so2T hM
      subst eo0
      subst eo1
      exact rt_z S hr hlocks hP hD hS d_Text_passesRule_103
    · have hM := itF hM c_9
      exact w_Text_passesRule_12 S hr hlocks hE hA (ih) 2000 x1 x2 tpl hM _ _ _ hP hD hS (lv_sub hl [0, 1, 2] rfl)
set_option maxHeartbeats 4000000 in
set_option maxRecDepth 100000 in
theorem c_Text_passesRule (l : Launch) (D : va_G) (cT : Nat → ClassId) (qT : Nat) (qTs : Nat) (tlen : Int32) (tpl : Int32) (tsg : Nat → Int32) {rr : Bool} {o_tpl : Int32} (hM : m_Text_passesRule tlen tsg tpl = some (rr, o_tpl)) : Ct l y_Text_passesRule (WS y_Text_passesRule b_Text_passesRule 3 (some .boolean)) rm_Text_passesRule D cT [.ref qT] [(qT, .inr (1, [.ref qTs, .int tlen, .int tpl])), (qTs, .inl (cT 2, 300, .inl tsg))] (some (.int (bI rr))) [(qT, .inr (1, [.ref qTs, .int tlen, .int o_tpl])), (qTs, .inl (cT 2, 300, .inl tsg))] 0 0 := by
  intro sz
  refine Met.ofW (cc := b_Text_passesRule) (maxL := 3) (ret := (some .boolean)) (by decide) rfl ?_
  intro p e s m args below meth c s₁ B hml hv
  obtain ⟨rfl, hsz, hP, hE, hD0⟩ := hv
  have hx := B.exec
  have hb := B.bytes
  have hr := B.returns
  have hts : ∀ w ∈ TB, w.before _ s = true := fun w h => atoms_spec (ws := WS y_Text_passesRule b_Text_passesRule 3 (some .boolean)) B.pre w (List.mem_cons_of_mem _ h)
  have hown : s.vm.findClass R_Text = some m.cls := findClass_of_methodNamed B.named
  have hlocks := B.notSynchronized
  have hK := hE.1
  have hN := hE.2
  subst hsz
  have hD := hD0.self (sz := s.heap.size)
  generalize hAe : va_A [(qT, .inr (1, [.ref qTs, .int tlen, .int tpl])), (qTs, .inl (cT 2, 300, .inl tsg))] s.heap.size = A at hD ⊢
  have hA : ∀ q : Nat, s.heap.size ≤ q → A q := fun q h => by rw [← hAe]; exact Or.inr h
  have hS : va_S A s.heap s.heap [] := va_S.rf
  have hl := lv_entry ([.ref qT]) (n := 3) (Nat.le_of_ble_eq_true rfl)
  rw [lg_entry_eq]
  generalize (lg_sl ([.ref qT]) ++ List.replicate (3 - (lg_sl ([.ref qT])).length) Slot.unset).toArray = ls at hl ⊢
  have hl : lv_has ls 3 [(0, .ref qT)] := hl
  have S : CallFix p m c b_Text_passesRule 3 s _ TB R_Text := ⟨hx, hb, hml, hown, hts⟩
  unfold m_Text_passesRule at hM
  refine lv_iconst (v := 0) hx hb d_Text_passesRule_0 (by decide) ?_
  refine lv_istore_n (lv' := [(1, .int 0), (0, .ref qT)]) hx hb d_Text_passesRule_1 rfl hl (by decide) rfl (fun ls hl => ?_)
  refine lv_iconst (v := 0) hx hb d_Text_passesRule_2 (by decide) ?_
  refine lv_istore_n (lv' := [(2, .int 0), (1, .int 0), (0, .ref qT)]) hx hb d_Text_passesRule_3 rfl hl (by decide) rfl (fun ls hl => ?_)
  exact w_Text_passesRule_4 S hr hlocks hE hA 2000 0 0 tpl hM _ _ _ hP hD hS (lv_sub hl [2, 1, 0] rfl)
def rm_Text_passesRow : Room := { frames := 4, cells := 0, slots := 0, locals := 86 }
set_option maxHeartbeats 4000000 in
set_option maxRecDepth 100000 in
theorem c_Text_passesRow (l : Launch) (D : va_G) (cT : Nat → ClassId) (qT : Nat) (qTs : Nat) (tlen : Int32) (tpl : Int32) (tsg : Nat → Int32) {rr : Bool} {o_tpl : Int32} (hM : m_Text_passesRow tlen tsg tpl = some (rr, o_tpl)) : Ct l y_Text_passesRow (WS y_Text_passesRow b_Text_passesRow 1 (some .boolean)) rm_Text_passesRow D cT [.ref qT] [(qT, .inr (1, [.ref qTs, .int tlen, .int tpl])), (qTs, .inl (cT 2, 300, .inl tsg))] (some (.int (bI rr))) [(qT, .inr (1, [.ref qTs, .int tlen, .int o_tpl])), (qTs, .inl (cT 2, 300, .inl tsg))] 0 0 := by
  intro sz
  refine Met.ofW (cc := b_Text_passesRow) (maxL := 1) (ret := (some .boolean)) (by decide) rfl ?_
  intro p e s m args below meth c s₁ B hml hv
  obtain ⟨rfl, hsz, hP, hE, hD0⟩ := hv
  have hx := B.exec
  have hb := B.bytes
  have hr := B.returns
  have hts : ∀ w ∈ TB, w.before _ s = true := fun w h => atoms_spec (ws := WS y_Text_passesRow b_Text_passesRow 1 (some .boolean)) B.pre w (List.mem_cons_of_mem _ h)
  have hown : s.vm.findClass R_Text = some m.cls := findClass_of_methodNamed B.named
  have hlocks := B.notSynchronized
  have hK := hE.1
  have hN := hE.2
  subst hsz
  have hD := hD0.self (sz := s.heap.size)
  generalize hAe : va_A [(qT, .inr (1, [.ref qTs, .int tlen, .int tpl])), (qTs, .inl (cT 2, 300, .inl tsg))] s.heap.size = A at hD ⊢
  have hA : ∀ q : Nat, s.heap.size ≤ q → A q := fun q h => by rw [← hAe]; exact Or.inr h
  have hS : va_S A s.heap s.heap [] := va_S.rf
  have hl := lv_entry ([.ref qT]) (n := 1) (Nat.le_of_ble_eq_true rfl)
  rw [lg_entry_eq]
  generalize (lg_sl ([.ref qT]) ++ List.replicate (1 - (lg_sl ([.ref qT])).length) Slot.unset).toArray = ls at hl ⊢
  have hl : lv_has ls 1 [(0, .ref qT)] := hl
  have S : CallFix p m c b_Text_passesRow 1 s _ TB R_Text := ⟨hx, hb, hml, hown, hts⟩
  unfold m_Text_passesRow at hM
  refine lv_aload_n hx hb d_Text_passesRow_0 rfl (lv_at hl 0 rfl) ?_
  refine lv_bipush (v := 6) hx hb d_Text_passesRow_1 (by decide) ?_
  refine lv_ldc (v := 999999) hx hb hown (hts _ iw_8a0f9f54) d_Text_passesRow_3 ?_
  obtain ⟨r_5, tpl_5, hc_5, hM⟩ := bd2T hM
  refine ca_V (As := [.int 6, .int 999999]) (rest := []) (wr := []) (w2 := [(qT, .inr (1, [.ref qTs, .int tlen, .int tpl_5])), (qTs, .inl (cT 2, 300, .inl tsg))]) S hE (c_Text_passesDigits l D cT qT qTs tlen tpl tsg 6 999999 hc_5) gw_0ad72b6e rfl rfl ⟨Nat.le_of_ble_eq_true rfl, Nat.le_of_ble_eq_true rfl⟩ (ci := 1) rfl rfl (k0 := 0) rfl rfl hl.1 rfl (Nat.le_of_ble_eq_true rfl) d_Text_passesRow_5 ⟨Nat.zero_le _, Nat.zero_le _⟩ hP hD hS hA [0, 1] [] [0, 1] rfl rfl (by decide) (by decide) rfl (by decide) (by decide) (fun H locs hP hD hS => ?_)
  refine lv_if_eq (tgt := 31) hx hb d_Text_passesRow_8 (by decide) (fun c_8 => ?_) (fun c_8 => ?_)
  · have hM := itT hM c_8
    refine lv_iconst (v := 0) hx hb d_Text_passesRow_31 (by decide) ?_
    obtain ⟨eo0, eo1⟩ := so2T hM
    subst eo0
    subst eo1
    exact rt_z S hr hlocks hP hD hS d_Text_passesRow_32
  · have hM := itF hM c_8
    refine lv_aload_n hx hb d_Text_passesRow_11 rfl (lv_at hl 0 rfl) ?_
    refine lv_bipush (v := 58) hx hb d_Text_passesRow_12 (by decide) ?_
    obtain ⟨r_14, tpl_14, hc_14, hM⟩ := bd2T hM
    refine ca_V (As := [.int 58]) (rest := []) (wr := []) (w2 := [(qT, .inr (1, [.ref qTs, .int tlen, .int tpl_14])), (qTs, .inl (cT 2, 300, .inl tsg))]) S hE (c_Text_passesSign l D cT qT qTs tlen tpl_5 tsg 58 hc_14) gw_e34063ef rfl rfl ⟨Nat.le_of_ble_eq_true rfl, Nat.le_of_ble_eq_true rfl⟩ (ci := 1) rfl rfl (k0 := 0) rfl rfl hl.1 rfl (Nat.le_of_ble_eq_true rfl) d_Text_passesRow_14 ⟨Nat.zero_le _, Nat.zero_le _⟩ hP hD hS hA [0, 1] [] [0, 1] rfl rfl (by decide) (by decide) rfl (by decide) (by decide) (fun H locs hP hD hS => ?_)
    refine lv_if_eq (tgt := 31) hx hb d_Text_passesRow_17 (by decide) (fun c_17 => ?_) (fun c_17 => ?_)
    · have hM := itT hM c_17
      refine lv_iconst (v := 0) hx hb d_Text_passesRow_31 (by decide) ?_
      obtain ⟨eo0, eo1⟩ := so2T hM
      subst eo0
      subst eo1
      exact rt_z S hr hlocks hP hD hS d_Text_passesRow_32
    · have hM := itF hM c_17
      refine lv_aload_n hx hb d_Text_passesRow_20 rfl (lv_at hl 0 rfl) ?_
      obtain ⟨r_21, tpl_21, hc_21, hM⟩ := bd2T hM
      refine ca_V (As := []) (rest := []) (wr := []) (w2 := [(qT, .inr (1, [.ref qTs, .int tlen, .int tpl_21])), (qTs, .inl (cT 2, 300, .inl tsg))]) S hE (c_Text_passesRule l D cT qT qTs tlen tpl_14 tsg hc_21) gw_6f92a4a9 rfl rfl ⟨Nat.le_of_ble_eq_true rfl, Nat.le_of_ble_eq_true rfl⟩ (ci := 1) rfl rfl (k0 := 0) rfl rfl hl.1 rfl (Nat.le_of_ble_eq_true rfl) d_Text_passesRow_21 ⟨Nat.zero_le _, Nat.zero_le _⟩ hP hD hS hA [0, 1] [] [0, 1] rfl rfl (by decide) (by decide) rfl (by decide) (by decide) (fun H locs hP hD hS => ?_)
      refine lv_if_eq (tgt := 31) hx hb d_Text_passesRow_24 (by decide) (fun c_24 => ?_) (fun c_24 => ?_)
      · have hM := itT hM c_24
        refine lv_iconst (v := 0) hx hb d_Text_passesRow_31 (by decide) ?_
        obtain ⟨eo0, eo1⟩ := so2T hM
        subst eo0
        subst eo1
        exact rt_z S hr hlocks hP hD hS d_Text_passesRow_32
      · have hM := itF hM c_24
        refine lv_iconst (v := 1) hx hb d_Text_passesRow_27 (by decide) ?_
        refine lv_goto (tgt := 32) hx hb d_Text_passesRow_28 (by decide) ?_
        obtain ⟨eo0, eo1⟩ := so2T hM
        subst eo0
        subst eo1
        exact rt_z S hr hlocks hP hD hS d_Text_passesRow_32
def rm_Text_rowsOrWrongPlace : Room := { frames := 5, cells := 0, slots := 0, locals := 106 }
set_option maxHeartbeats 4000000 in
set_option maxRecDepth 100000 in
theorem w_Text_rowsOrWrongPlace_7 {p : Program} {l : Launch} {e : Env} {s : State} {m : MethodId} {args : Array Value} {below : List Frame} {meth : Method} {c : Code} {D : va_G} {cT : Nat → ClassId} {A : Nat → Prop} (S : CallFix p m c b_Text_rowsOrWrongPlace 2 s args TB R_Text) (hr : meth.sig.returnType = (some .int)) (hlocks : meth.locks = false) (hE : EN D cT s) (hA : ∀ q, s.heap.size ≤ q → A q) {qT : Nat} {qTs : Nat} {tlen : Int32} {tsg : Nat → Int32} {rr : Int32} {o_tpl : Int32} : ∀ (n : Nat) (x1 : Int32) (tpl : Int32), k_Text_rowsOrWrongPlace_7 tlen tsg  n x1 tpl = some (rr, o_tpl) → ∀ (H : Heap) (locs : List Loc) (ls : Array Slot), va_P D classes [(qT, .inr (1, [.ref qTs, .int tlen, .int tpl])), (qTs, .inl (cT 2, 300, .inl tsg))] H → va_D A [(qT, .inr (1, [.ref qTs, .int tlen, .int tpl])), (qTs, .inl (cT 2, 300, .inl tsg))] → va_S A s.heap H locs → lv_has ls 2 [(0, .ref qT), (1, .int x1)] → W p l e (headSpec (WS y_Text_rowsOrWrongPlace b_Text_rowsOrWrongPlace 2 (some .int)) rm_Text_rowsOrWrongPlace).room s m args below meth c H locs 0 0 (MQ below (qW D A [(qT, .inr (1, [.ref qTs, .int tlen, .int o_tpl])), (qTs, .inl (cT 2, 300, .inl tsg))] (some (.int rr))) args s 0 0 A) (F0 m 7 ls []) := by
  obtain ⟨hx, hb, hml, hown, hts⟩ := id S
  have hK := hE.1
  have hN := hE.2
  intro n
  induction n with
  | zero =>
    intro x1 tpl hM
    rw [k_Text_rowsOrWrongPlace_7_z] at hM
    cases hM
  | succ n ih =>
    intro x1 tpl hM H locs ls hP hD hS hl
    rw [k_Text_rowsOrWrongPlace_7_s] at hM
    refine lv_iload_n hx hb d_Text_rowsOrWrongPlace_7 rfl (lv_at hl 1 rfl) ?_
    refine lv_bipush (v := 20) hx hb d_Text_rowsOrWrongPlace_8 (by decide) ?_
    refine lv_icmp_gt (tgt := 39) hx hb d_Text_rowsOrWrongPlace_10 (by decide) (fun c_10 => ?_) (fun c_10 => ?_)
    · have hM := itT hM c_10
      refine lv_iconst (v := (-1)) hx hb d_Text_rowsOrWrongPlace_39 (by decide) ?_
      refine lv_aload_n hx hb d_Text_rowsOrWrongPlace_40 rfl (lv_at hl 0 rfl) ?_
      refine va_get (D := D) (ci := 1) (v := .int tpl) (C := R_Text) (T := F_Text) (N := 3) hx hb hts i_Text hown hK hP 0 rfl rfl 2 (by decide) (hts _ iw_acadda54) (fun _ h9 => h9) rfl d_Text_rowsOrWrongPlace_41 ?_
      refine lv_isub hx hb d_Text_rowsOrWrongPlace_44 ?_
      obtain ⟨eo0, eo1⟩ := so2T hM
      subst eo0
      subst eo1
      exact rt_i S hr hlocks hP hD hS d_Text_rowsOrWrongPlace_45
    · have hM := itF hM c_10
      refine lv_aload_n hx hb d_Text_rowsOrWrongPlace_13 rfl (lv_at hl 0 rfl) ?_
      obtain ⟨r_14, tpl_14, hc_14, hM⟩ := bd2T hM
      refine ca_V (As := []) (rest := []) (wr := []) (w2 := [(qT, .inr (1, [.ref qTs, .int tlen, .int tpl_14])), (qTs, .inl (cT 2, 300, .inl tsg))]) S hE (c_Text_passesRow l D cT qT qTs tlen tpl tsg hc_14) gw_30ac3f92 rfl rfl ⟨Nat.le_of_ble_eq_true rfl, Nat.le_of_ble_eq_true rfl⟩ (ci := 1) rfl rfl (k0 := 0) rfl rfl hl.1 rfl (Nat.le_of_ble_eq_true rfl) d_Text_rowsOrWrongPlace_14 ⟨Nat.zero_le _, Nat.zero_le _⟩ hP hD hS hA [0, 1] [] [0, 1] rfl rfl (by decide) (by decide) rfl (by decide) (by decide) (fun H locs hP hD hS => ?_)
      refine lv_if_eq (tgt := 39) hx hb d_Text_rowsOrWrongPlace_17 (by decide) (fun c_17 => ?_) (fun c_17 => ?_)
      · have hM := itT hM c_17
        refine lv_iconst (v := (-1)) hx hb d_Text_rowsOrWrongPlace_39 (by decide) ?_
        refine lv_aload_n hx hb d_Text_rowsOrWrongPlace_40 rfl (lv_at hl 0 rfl) ?_
        refine va_get (D := D) (ci := 1) (v := .int tpl_14) (C := R_Text) (T := F_Text) (N := 3) hx hb hts i_Text hown hK hP 0 rfl rfl 2 (by decide) (hts _ iw_acadda54) (fun _ h9 => h9) rfl d_Text_rowsOrWrongPlace_41 ?_
        refine lv_isub hx hb d_Text_rowsOrWrongPlace_44 ?_
        obtain ⟨eo0, eo1⟩ := so2T hM
        subst eo0
        subst eo1
        exact rt_i S hr hlocks hP hD hS d_Text_rowsOrWrongPlace_45
      · have hM := itF hM c_17
        refine lv_aload_n hx hb d_Text_rowsOrWrongPlace_20 rfl (lv_at hl 0 rfl) ?_
        refine va_get (D := D) (ci := 1) (v := .int tpl_14) (C := R_Text) (T := F_Text) (N := 3) hx hb hts i_Text hown hK hP 0 rfl rfl 2 (by decide) (hts _ iw_acadda54) (fun _ h9 => h9) rfl d_Text_rowsOrWrongPlace_21 ?_
        refine lv_aload_n hx hb d_Text_rowsOrWrongPlace_24 rfl (lv_at hl 0 rfl) ?_
        refine va_get (D := D) (ci := 1) (v := .int tlen) (C := R_Text) (T := F_Text) (N := 3) hx hb hts i_Text hown hK hP 0 rfl rfl 1 (by decide) (hts _ iw_f5700a61) (fun _ h9 => h9) rfl d_Text_rowsOrWrongPlace_25 ?_
        refine lv_icmp_ne (tgt := 33) hx hb d_Text_rowsOrWrongPlace_28 (by decide) (fun c_28 => ?_) (fun c_28 => ?_)
        · have hM := itF hM c_28
          refine lv_iinc (v := x1 + 1) (lv' := [(1, .int (x1 + 1)), (0, .ref qT)]) hx hb d_Text_rowsOrWrongPlace_33 hl (k := 1) rfl rfl (by decide) rfl (fun ls hl => ?_)
          refine lv_goto (tgt := 7) hx hb d_Text_rowsOrWrongPlace_36 (by decide) ?_
          exact ih (x1 + 1) tpl_14 hM _ _ _ hP hD hS (lv_sub hl [1, 0] rfl)
        · have hM := itT hM c_28
          refine lv_iload_n hx hb d_Text_rowsOrWrongPlace_31 rfl (lv_at hl 1 rfl) ?_
          obtain ⟨eo0, eo1⟩ := so2T hM
          subst eo0
          subst eo1
          exact rt_i S hr hlocks hP hD hS d_Text_rowsOrWrongPlace_32
set_option maxHeartbeats 4000000 in
set_option maxRecDepth 100000 in
theorem c_Text_rowsOrWrongPlace (l : Launch) (D : va_G) (cT : Nat → ClassId) (qT : Nat) (qTs : Nat) (tlen : Int32) (tpl : Int32) (tsg : Nat → Int32) {rr : Int32} {o_tpl : Int32} (hM : m_Text_rowsOrWrongPlace tlen tsg tpl = some (rr, o_tpl)) : Ct l y_Text_rowsOrWrongPlace (WS y_Text_rowsOrWrongPlace b_Text_rowsOrWrongPlace 2 (some .int)) rm_Text_rowsOrWrongPlace D cT [.ref qT] [(qT, .inr (1, [.ref qTs, .int tlen, .int tpl])), (qTs, .inl (cT 2, 300, .inl tsg))] (some (.int rr)) [(qT, .inr (1, [.ref qTs, .int tlen, .int o_tpl])), (qTs, .inl (cT 2, 300, .inl tsg))] 0 0 := by
  intro sz
  refine Met.ofW (cc := b_Text_rowsOrWrongPlace) (maxL := 2) (ret := (some .int)) (by decide) rfl ?_
  intro p e s m args below meth c s₁ B hml hv
  obtain ⟨rfl, hsz, hP, hE, hD0⟩ := hv
  have hx := B.exec
  have hb := B.bytes
  have hr := B.returns
  have hts : ∀ w ∈ TB, w.before _ s = true := fun w h => atoms_spec (ws := WS y_Text_rowsOrWrongPlace b_Text_rowsOrWrongPlace 2 (some .int)) B.pre w (List.mem_cons_of_mem _ h)
  have hown : s.vm.findClass R_Text = some m.cls := findClass_of_methodNamed B.named
  have hlocks := B.notSynchronized
  have hK := hE.1
  have hN := hE.2
  subst hsz
  have hD := hD0.self (sz := s.heap.size)
  generalize hAe : va_A [(qT, .inr (1, [.ref qTs, .int tlen, .int tpl])), (qTs, .inl (cT 2, 300, .inl tsg))] s.heap.size = A at hD ⊢
  have hA : ∀ q : Nat, s.heap.size ≤ q → A q := fun q h => by rw [← hAe]; exact Or.inr h
  have hS : va_S A s.heap s.heap [] := va_S.rf
  have hl := lv_entry ([.ref qT]) (n := 2) (Nat.le_of_ble_eq_true rfl)
  rw [lg_entry_eq]
  generalize (lg_sl ([.ref qT]) ++ List.replicate (2 - (lg_sl ([.ref qT])).length) Slot.unset).toArray = ls at hl ⊢
  have hl : lv_has ls 2 [(0, .ref qT)] := hl
  have S : CallFix p m c b_Text_rowsOrWrongPlace 2 s _ TB R_Text := ⟨hx, hb, hml, hown, hts⟩
  unfold m_Text_rowsOrWrongPlace at hM
  refine lv_aload_n hx hb d_Text_rowsOrWrongPlace_0 rfl (lv_at hl 0 rfl) ?_
  refine lv_iconst (v := 0) hx hb d_Text_rowsOrWrongPlace_1 (by decide) ?_
  refine va_put (D := D) (ci := 1) (v := .int 0) (ty := .int) (C := R_Text) (T := F_Text) (N := 3) hx hb hts i_Text t_Text t_Text_ok n_Text hown hK hP hD hS 0 rfl rfl 2 (by decide) (hts _ iw_acadda54) (fun _ h9 => h9) rfl (by decide +kernel) rfl rfl (Nat.le_of_ble_eq_true rfl) d_Text_rowsOrWrongPlace_2 (fun H locs hP hD hS => ?_)
  have hP : va_P D classes [(qT, .inr (1, [.ref qTs, .int tlen, .int 0])), (qTs, .inl (cT 2, 300, .inl tsg))] H := hP
  have hD : va_D A [(qT, .inr (1, [.ref qTs, .int tlen, .int 0])), (qTs, .inl (cT 2, 300, .inl tsg))] := hD
  refine lv_iconst (v := 1) hx hb d_Text_rowsOrWrongPlace_5 (by decide) ?_
  refine lv_istore_n (lv' := [(1, .int 1), (0, .ref qT)]) hx hb d_Text_rowsOrWrongPlace_6 rfl hl (by decide) rfl (fun ls hl => ?_)
  exact w_Text_rowsOrWrongPlace_7 S hr hlocks hE hA 2000 1 0 hM _ _ _ hP hD hS (lv_sub hl [1, 0] rfl)
