set_option maxHeartbeats 4000000 in
theorem start_EN {s : State} {args : Array Value} (hts : ∀ w ∈ lw_tbl, w.before args s = true) : ∃ (D : va_G) (cT : Nat → ClassId), EN D cT s := by
  obtain ⟨c0, i0, hk0⟩ := u_known (C := R_Or) (T := F_Or) (N := 11) (n := 11) hts (fun w h => (List.mem_filter.mp (i_Or w h)).1) (hts _ (List.mem_filter.mp iw_64cd90fc).1)
  obtain ⟨c1, i1, hk1⟩ := u_known (C := R_Text) (T := F_Text) (N := 3) (n := 3) hts (fun w h => (List.mem_filter.mp (i_Text w h)).1) (hts _ (List.mem_filter.mp iw_311979f7).1)
  obtain ⟨c2, i2, hk2⟩ := u_known (C := R_Rows) (T := F_Rows) (N := 3) (n := 3) hts (fun w h => (List.mem_filter.mp (i_Rows w h)).1) (hts _ (List.mem_filter.mp iw_11f2aa56).1)
  obtain ⟨c3, i3, hk3⟩ := u_known (C := R_Parts) (T := F_Parts) (N := 4) (n := 4) hts (fun w h => (List.mem_filter.mp (i_Parts w h)).1) (hts _ (List.mem_filter.mp iw_3e03a4ad).1)
  obtain ⟨c4, i4, hk4⟩ := u_known (C := R_Lands) (T := F_Lands) (N := 3) (n := 3) hts (fun w h => (List.mem_filter.mp (i_Lands w h)).1) (hts _ (List.mem_filter.mp iw_7919b50d).1)
  obtain ⟨c5, i5, hk5⟩ := u_known (C := R_Proofs) (T := F_Proofs) (N := 4) (n := 4) hts (fun w h => (List.mem_filter.mp (i_Proofs w h)).1) (hts _ (List.mem_filter.mp iw_67055524).1)
  obtain ⟨c6, i6, hk6⟩ := u_known (C := R_Md) (T := F_Md) (N := 27) (n := 27) hts (fun w h => (List.mem_filter.mp (i_Md w h)).1) (hts _ (List.mem_filter.mp iw_4dc08179).1)
  obtain ⟨a0, ka0, co0, ha0, hb0, hd0⟩ := Cond.arrayClass_spec (hts _ (List.mem_filter.mp iw_c201d5c8).1)
  obtain ⟨a1, ka1, co1, ha1, hb1, hd1⟩ := Cond.arrayClass_spec (hts _ (List.mem_filter.mp iw_2603678b).1)
  obtain ⟨a2, ka2, co2, ha2, hb2, hd2⟩ := Cond.arrayClass_spec (hts _ (List.mem_filter.mp iw_05249af3).1)
  obtain ⟨a3, ka3, co3, ha3, hb3, hd3⟩ := Cond.arrayClass_spec (hts _ (List.mem_filter.mp iw_6307cb4f).1)
  obtain ⟨a4, ka4, co4, ha4, hb4, hd4⟩ := Cond.arrayClass_spec (hts _ (List.mem_filter.mp iw_2871d640).1)
  refine ⟨(fun k => if k = 0 then c0 else if k = 1 then c1 else if k = 2 then c2 else if k = 3 then c3 else if k = 4 then c4 else if k = 5 then c5 else c6, fun k => if k = 0 then i0 else if k = 1 then i1 else if k = 2 then i2 else if k = 3 then i3 else if k = 4 then i4 else if k = 5 then i5 else i6), (fun k => if k = 0 then a0 else if k = 1 then a1 else if k = 2 then a2 else if k = 3 then a3 else a4), ⟨?_, ?_⟩, ?_⟩
  · intro k q hq
    match k, hq with
    | 0, hq => cases hq; exact hk0
    | 1, hq => cases hq; exact hk1
    | 2, hq => cases hq; exact hk2
    | 3, hq => cases hq; exact hk3
    | 4, hq => cases hq; exact hk4
    | 5, hq => cases hq; exact hk5
    | 6, hq => cases hq; exact hk6
    | k + 7, hq => simp [classes] at hq
  · intro k q hq
    match k, hq with
    | 0, hq => cases hq; exact ⟨fun n z => ⟨fun k h => (by cases h), ka0, hb0, co0, hd0⟩, ha0⟩
    | 1, hq => cases hq; exact ⟨fun n z => ⟨fun k h => (by cases h), ka1, hb1, co1, hd1⟩, ha1⟩
    | 2, hq => cases hq; exact ⟨fun n z => ⟨fun k h => (by cases h), ka2, hb2, co2, hd2⟩, ha2⟩
    | 3, hq => cases hq; exact ⟨fun n z => ⟨fun k h => (by cases h), ka3, hb3, co3, hd3⟩, ha3⟩
    | 4, hq => cases hq; exact ⟨fun n z => ⟨fun k h => (by cases h), ka4, hb4, co4, hd4⟩, ha4⟩
    | k + 5, hq => simp [tyL] at hq
  · intro w hw
    have hn : isNest w = true := NL_ok w hw
    have h1 := hts w (NL_in w hw)
    unfold isNest at hn
    split at hn
    · exact va_Nw.of rfl h1
    · exact va_Nw.of rfl h1
    · cases hn
theorem start_TE {s : State} {args : Array Value} {D : va_G} {cT : Nat → ClassId} (hts : ∀ w ∈ lw_tbl, w.before args s = true) (hE : EN D cT s) (hgv : (Jvm.Cond.and given_1 narrow_1).before args s = true) : TE (fun q : Nat => s.heap.size ≤ q) s ∧ NC s := by
  have hs := flat_of_before _ hgv
  refine ⟨⟨fun w hw => ?_, ?_, ?_, ?_⟩, ?_⟩
  · have hx := XL_xw w hw
    simp only [xw, Bool.and_eq_true] at hx
    exact va_tabs hx.1 rfl (hts w (List.mem_filter.mp hw).1)
  · exact ex_S.of (args := args) (hts _ (by decide +kernel)) (hs _ (by decide +kernel)) (fun a h => Nat.not_le.mpr h)
  · exact ex_S.of (args := args) (hts _ (by decide +kernel)) (hs _ (by decide +kernel)) (fun a h => Nat.not_le.mpr h)
  · intro z hz
    have h1 : (Cond.stringRef z.1 z.2.1 z.2.2).before args s = true := hts _ ((by decide +kernel : ∀ z ∈ SL, Cond.stringRef z.1 z.2.1 z.2.2 ∈ lw_tbl) z hz)
    have h2 : z.1 = R_Or := (by decide +kernel : ∀ z ∈ SL, z.1 = R_Or) z hz
    have hf := (hE.1.1 0 _ rfl).2.1
    rw [h2] at h1 ⊢
    obtain ⟨k, cf, i, a', hk, hcf, hcp, -, hr, hev⟩ := Cond.stringRef_spec hf h1
    exact ⟨a', vk_R.of h1 hev⟩
  · intro a b hab
    exact va_Nc.of (args := args) (hs _ ((by decide +kernel : ∀ p ∈ NCL, Cond.not (.castable p.1 p.2) ∈ flatC (Jvm.Cond.and given_1 narrow_1)) (a, b) hab))
set_option maxHeartbeats 16000000 in
set_option maxRecDepth 100000 in
theorem whole_start {p : Program} {e : Env} {s : State} {m : MethodId} {below : List Frame} {meth : Method} {c : Code} (l : Launch) (hl0 : l.stackTraces = false) {b L : Nat} {xs : Nat → Int32} (hL : L ≤ 2560) (C0 : lw_At p s m meth c b L xs) : W p l e room_1 s m #[Value.ref b] below meth c s.heap [] 0 0 (lw_Z below #[Value.ref b] s) (entryFrame m ([Value.ref b] : List Value).toArray 8) := by
  obtain ⟨hx, hb, hr, hml, hown0, hts0, hX, hbl, hlocks, hgv⟩ := id C0
  have hown : s.vm.findClass R_Law = some m.cls := hown0
  have hts : ∀ w ∈ TB, w.before #[Value.ref b] s = true := fun w h => hts0 w (List.mem_filter.mp h).1
  have S : CallFix p m c code 8 s #[Value.ref b] TB R_Law := ⟨hx, hb, hml, hown, hts⟩
  obtain ⟨D, cT, hE⟩ := start_EN hts0
  obtain ⟨hTE, hNc⟩ := start_TE hts0 hE hgv
  have hA : ∀ q : Nat, s.heap.size ≤ q → (fun q : Nat => s.heap.size ≤ q) q := fun _ h => h
  have hK := hE.1
  have hS : va_S (fun q : Nat => s.heap.size ≤ q) s.heap s.heap [] := va_S.rf
  have hP : va_P D classes [] s.heap := fun k q h => by simp at h
  have hD : va_D (fun q : Nat => s.heap.size ≤ q) [] := ⟨fun i j p q h => by simp at h, fun k q h => by simp at h⟩
  have hl := lv_entry ([.ref b]) (n := 8) (Nat.le_of_ble_eq_true rfl)
  rw [lg_entry_eq]
  generalize (lg_sl ([.ref b]) ++ List.replicate (8 - (lg_sl ([.ref b])).length) Slot.unset).toArray = ls at hl ⊢
  have hl : lv_has ls 8 [(0, .ref b)] := hl
  refine va_new (ci := 0) (fs := [.null, .null, .null, .null, .null, .int 0, .int 0, .int 0, .int 0, .null, .int 0]) (C := R_Or) (T := F_Or) (N := 11) hx hb hts i_Or t_Or t_Or_ok hown (hts _ iw_5c050ea8) (hts _ iw_64cd90fc) (hts _ iw_16f0de2c) hK hP hD hS hA rfl (fun j hj => by rcases (show j = 0 ∨ j = 1 ∨ j = 2 ∨ j = 3 ∨ j = 4 ∨ j = 5 ∨ j = 6 ∨ j = 7 ∨ j = 8 ∨ j = 9 ∨ j = 10 by omega) with rfl | rfl | rfl | rfl | rfl | rfl | rfl | rfl | rfl | rfl | rfl <;> rfl) (Nat.le_of_ble_eq_true rfl) (Nat.le_of_ble_eq_true rfl) d_law_0 (fun qO H hP hD hS => ?_)
  have hP : va_P D classes [(qO, .inr (0, [.null, .null, .null, .null, .null, .int 0, .int 0, .int 0, .int 0, .null, .int 0]))] H := hP
  have hD : va_D (fun q : Nat => s.heap.size ≤ q) [(qO, .inr (0, [.null, .null, .null, .null, .null, .int 0, .int 0, .int 0, .int 0, .null, .int 0]))] := hD
  refine lv_dup hx hb d_law_3 rfl ?_
  refine ca_I (As := []) (wr := []) rfl (rest := [.ref qO]) S hE (c_Or_init l D cT qO) gw_544ae75a rfl rfl ⟨Nat.le_of_ble_eq_true rfl, Nat.le_of_ble_eq_true rfl⟩ rfl hl.1 rfl (Nat.le_of_ble_eq_true rfl) d_law_4 ⟨Nat.le_of_ble_eq_true rfl, Nat.le_of_ble_eq_true rfl⟩ hP hD hS hA [0] [] rfl rfl (by decide) (by decide) (by decide) (fun w1 hw1 H locs hP hD hS => ?_)
  obtain ⟨qO_0, qO_1, qO_2, qO_3, qO_4, qO_5, qO_6, qO_7, qO_8, qO_9, qO_10, qO_11, qO_12, qO_13, qO_14, rfl⟩ := hw1
  have hP : va_P D classes [(qO, .inr (0, [.ref qO_0, .ref qO_2, .ref qO_4, .ref qO_8, .ref qO_10, .int 0, .int 0, .int 0, .int 1, .ref qO_14, .int 0])), (qO_0, .inr (1, [.ref qO_1, .int 0, .int 0])), (qO_1, .inl (cT 2, 300, .inl fun _ => 0)), (qO_2, .inr (2, [.ref qO_3, .int 0, .int 0])), (qO_3, .inl (cT 2, 300, .inl fun _ => 0)), (qO_4, .inr (3, [.ref qO_5, .ref qO_6, .ref qO_7, .int 0])), (qO_5, .inl (cT 0, 12, .inl fun _ => 0)), (qO_6, .inl (cT 0, 12, .inl fun _ => 0)), (qO_7, .inl (cT 1, 12, .inr (.inl fun _ => 0))), (qO_8, .inr (4, [.ref qO_9, .int 0, .int 0])), (qO_9, .inl (cT 0, 10, .inl fun _ => 0)), (qO_10, .inr (5, [.ref qO_11, .ref qO_12, .ref qO_13, .int 0])), (qO_11, .inl (cT 0, 20, .inl fun _ => 0)), (qO_12, .inl (cT 0, 20, .inl fun _ => 0)), (qO_13, .inl (cT 0, 20, .inl fun _ => 0)), (qO_14, .inl (cT 0, 149, .inl fun _ => 0))] H := hP
  have hD : va_D (fun q : Nat => s.heap.size ≤ q) [(qO, .inr (0, [.ref qO_0, .ref qO_2, .ref qO_4, .ref qO_8, .ref qO_10, .int 0, .int 0, .int 0, .int 1, .ref qO_14, .int 0])), (qO_0, .inr (1, [.ref qO_1, .int 0, .int 0])), (qO_1, .inl (cT 2, 300, .inl fun _ => 0)), (qO_2, .inr (2, [.ref qO_3, .int 0, .int 0])), (qO_3, .inl (cT 2, 300, .inl fun _ => 0)), (qO_4, .inr (3, [.ref qO_5, .ref qO_6, .ref qO_7, .int 0])), (qO_5, .inl (cT 0, 12, .inl fun _ => 0)), (qO_6, .inl (cT 0, 12, .inl fun _ => 0)), (qO_7, .inl (cT 1, 12, .inr (.inl fun _ => 0))), (qO_8, .inr (4, [.ref qO_9, .int 0, .int 0])), (qO_9, .inl (cT 0, 10, .inl fun _ => 0)), (qO_10, .inr (5, [.ref qO_11, .ref qO_12, .ref qO_13, .int 0])), (qO_11, .inl (cT 0, 20, .inl fun _ => 0)), (qO_12, .inl (cT 0, 20, .inl fun _ => 0)), (qO_13, .inl (cT 0, 20, .inl fun _ => 0)), (qO_14, .inl (cT 0, 149, .inl fun _ => 0))] := hD
  refine lv_astore_n (lv' := [(1, .ref qO), (0, .ref b)]) hx hb d_law_7 rfl hl (by decide) rfl (fun ls hl => ?_)
  refine va_new (ci := 6) (fs := [.int 0, .null, .int 0, .null, .null, .int 0, .null, .int 0, .null, .null, .null, .int 0, .int 0, .null, .int 0, .int 0, .int 0, .int 0, .int 0, .null, .null, .null, .int 0, .null, .null, .null, .null]) (C := R_Md) (T := F_Md) (N := 27) hx hb hts i_Md t_Md t_Md_ok hown (hts _ iw_6717a320) (hts _ iw_4dc08179) (hts _ iw_b5246c44) hK hP hD hS hA rfl (fun j hj => by rcases (show j = 0 ∨ j = 1 ∨ j = 2 ∨ j = 3 ∨ j = 4 ∨ j = 5 ∨ j = 6 ∨ j = 7 ∨ j = 8 ∨ j = 9 ∨ j = 10 ∨ j = 11 ∨ j = 12 ∨ j = 13 ∨ j = 14 ∨ j = 15 ∨ j = 16 ∨ j = 17 ∨ j = 18 ∨ j = 19 ∨ j = 20 ∨ j = 21 ∨ j = 22 ∨ j = 23 ∨ j = 24 ∨ j = 25 ∨ j = 26 by omega) with rfl | rfl | rfl | rfl | rfl | rfl | rfl | rfl | rfl | rfl | rfl | rfl | rfl | rfl | rfl | rfl | rfl | rfl | rfl | rfl | rfl | rfl | rfl | rfl | rfl | rfl | rfl <;> rfl) (Nat.le_of_ble_eq_true rfl) (Nat.le_of_ble_eq_true rfl) d_law_8 (fun qM H hP hD hS => ?_)
  have hP : va_P D classes [(qO, .inr (0, [.ref qO_0, .ref qO_2, .ref qO_4, .ref qO_8, .ref qO_10, .int 0, .int 0, .int 0, .int 1, .ref qO_14, .int 0])), (qO_0, .inr (1, [.ref qO_1, .int 0, .int 0])), (qO_1, .inl (cT 2, 300, .inl fun _ => 0)), (qO_2, .inr (2, [.ref qO_3, .int 0, .int 0])), (qO_3, .inl (cT 2, 300, .inl fun _ => 0)), (qO_4, .inr (3, [.ref qO_5, .ref qO_6, .ref qO_7, .int 0])), (qO_5, .inl (cT 0, 12, .inl fun _ => 0)), (qO_6, .inl (cT 0, 12, .inl fun _ => 0)), (qO_7, .inl (cT 1, 12, .inr (.inl fun _ => 0))), (qO_8, .inr (4, [.ref qO_9, .int 0, .int 0])), (qO_9, .inl (cT 0, 10, .inl fun _ => 0)), (qO_10, .inr (5, [.ref qO_11, .ref qO_12, .ref qO_13, .int 0])), (qO_11, .inl (cT 0, 20, .inl fun _ => 0)), (qO_12, .inl (cT 0, 20, .inl fun _ => 0)), (qO_13, .inl (cT 0, 20, .inl fun _ => 0)), (qO_14, .inl (cT 0, 149, .inl fun _ => 0)), (qM, .inr (6, [.int 0, .null, .int 0, .null, .null, .int 0, .null, .int 0, .null, .null, .null, .int 0, .int 0, .null, .int 0, .int 0, .int 0, .int 0, .int 0, .null, .null, .null, .int 0, .null, .null, .null, .null]))] H := hP
  have hD : va_D (fun q : Nat => s.heap.size ≤ q) [(qO, .inr (0, [.ref qO_0, .ref qO_2, .ref qO_4, .ref qO_8, .ref qO_10, .int 0, .int 0, .int 0, .int 1, .ref qO_14, .int 0])), (qO_0, .inr (1, [.ref qO_1, .int 0, .int 0])), (qO_1, .inl (cT 2, 300, .inl fun _ => 0)), (qO_2, .inr (2, [.ref qO_3, .int 0, .int 0])), (qO_3, .inl (cT 2, 300, .inl fun _ => 0)), (qO_4, .inr (3, [.ref qO_5, .ref qO_6, .ref qO_7, .int 0])), (qO_5, .inl (cT 0, 12, .inl fun _ => 0)), (qO_6, .inl (cT 0, 12, .inl fun _ => 0)), (qO_7, .inl (cT 1, 12, .inr (.inl fun _ => 0))), (qO_8, .inr (4, [.ref qO_9, .int 0, .int 0])), (qO_9, .inl (cT 0, 10, .inl fun _ => 0)), (qO_10, .inr (5, [.ref qO_11, .ref qO_12, .ref qO_13, .int 0])), (qO_11, .inl (cT 0, 20, .inl fun _ => 0)), (qO_12, .inl (cT 0, 20, .inl fun _ => 0)), (qO_13, .inl (cT 0, 20, .inl fun _ => 0)), (qO_14, .inl (cT 0, 149, .inl fun _ => 0)), (qM, .inr (6, [.int 0, .null, .int 0, .null, .null, .int 0, .null, .int 0, .null, .null, .null, .int 0, .int 0, .null, .int 0, .int 0, .int 0, .int 0, .int 0, .null, .null, .null, .int 0, .null, .null, .null, .null]))] := hD
  refine lv_dup hx hb d_law_11 rfl ?_
  refine ca_I (As := []) (wr := [(qO, .inr (0, [.ref qO_0, .ref qO_2, .ref qO_4, .ref qO_8, .ref qO_10, .int 0, .int 0, .int 0, .int 1, .ref qO_14, .int 0])), (qO_0, .inr (1, [.ref qO_1, .int 0, .int 0])), (qO_1, .inl (cT 2, 300, .inl fun _ => 0)), (qO_2, .inr (2, [.ref qO_3, .int 0, .int 0])), (qO_3, .inl (cT 2, 300, .inl fun _ => 0)), (qO_4, .inr (3, [.ref qO_5, .ref qO_6, .ref qO_7, .int 0])), (qO_5, .inl (cT 0, 12, .inl fun _ => 0)), (qO_6, .inl (cT 0, 12, .inl fun _ => 0)), (qO_7, .inl (cT 1, 12, .inr (.inl fun _ => 0))), (qO_8, .inr (4, [.ref qO_9, .int 0, .int 0])), (qO_9, .inl (cT 0, 10, .inl fun _ => 0)), (qO_10, .inr (5, [.ref qO_11, .ref qO_12, .ref qO_13, .int 0])), (qO_11, .inl (cT 0, 20, .inl fun _ => 0)), (qO_12, .inl (cT 0, 20, .inl fun _ => 0)), (qO_13, .inl (cT 0, 20, .inl fun _ => 0)), (qO_14, .inl (cT 0, 149, .inl fun _ => 0))]) rfl (rest := [.ref qM]) S hE (c_Md_init l D cT qM) gw_e5d0716c rfl rfl ⟨Nat.le_of_ble_eq_true rfl, Nat.le_of_ble_eq_true rfl⟩ rfl hl.1 rfl (Nat.le_of_ble_eq_true rfl) d_law_12 ⟨Nat.le_of_ble_eq_true rfl, Nat.le_of_ble_eq_true rfl⟩ hP hD hS hA [16] [0, 1, 2, 3, 4, 5, 6, 7, 8, 9, 10, 11, 12, 13, 14, 15] rfl rfl (by decide) (by decide) (by decide) (fun w1 hw1 H locs hP hD hS => ?_)
  obtain ⟨qM_0, qM_1, qM_2, qM_3, qM_4, qM_5, qM_6, qM_7, qM_8, qM_9, qM_10, qM_11, qM_12, qM_13, qM_14, rfl⟩ := hw1
  have hP : va_P D classes [(qO, .inr (0, [.ref qO_0, .ref qO_2, .ref qO_4, .ref qO_8, .ref qO_10, .int 0, .int 0, .int 0, .int 1, .ref qO_14, .int 0])), (qO_0, .inr (1, [.ref qO_1, .int 0, .int 0])), (qO_1, .inl (cT 2, 300, .inl fun _ => 0)), (qO_2, .inr (2, [.ref qO_3, .int 0, .int 0])), (qO_3, .inl (cT 2, 300, .inl fun _ => 0)), (qO_4, .inr (3, [.ref qO_5, .ref qO_6, .ref qO_7, .int 0])), (qO_5, .inl (cT 0, 12, .inl fun _ => 0)), (qO_6, .inl (cT 0, 12, .inl fun _ => 0)), (qO_7, .inl (cT 1, 12, .inr (.inl fun _ => 0))), (qO_8, .inr (4, [.ref qO_9, .int 0, .int 0])), (qO_9, .inl (cT 0, 10, .inl fun _ => 0)), (qO_10, .inr (5, [.ref qO_11, .ref qO_12, .ref qO_13, .int 0])), (qO_11, .inl (cT 0, 20, .inl fun _ => 0)), (qO_12, .inl (cT 0, 20, .inl fun _ => 0)), (qO_13, .inl (cT 0, 20, .inl fun _ => 0)), (qO_14, .inl (cT 0, 149, .inl fun _ => 0)), (qM, .inr (6, [.int 0, .ref qM_0, .int 0, .ref qM_1, .ref qM_2, .int 0, .ref qM_3, .int 0, .ref qM_4, .ref qM_5, .ref qM_6, .int 0, .int 0, .ref qM_7, .int 0, .int 0, .int 0, .int 1, .int 0, .ref qM_8, .ref qM_9, .ref qM_10, .int 0, .ref qM_11, .ref qM_12, .ref qM_13, .ref qM_14])), (qM_0, .inl (cT 0, 300, .inl fun _ => 0)), (qM_1, .inl (cT 0, 300, .inl fun _ => 0)), (qM_2, .inl (cT 0, 21, .inl fun _ => 0)), (qM_3, .inl (cT 0, 21, .inl fun _ => 0)), (qM_4, .inl (cT 0, 12, .inl fun _ => 0)), (qM_5, .inl (cT 0, 12, .inl fun _ => 0)), (qM_6, .inl (cT 1, 12, .inr (.inl fun _ => 0))), (qM_7, .inl (cT 3, 100, .inl fun _ => 0)), (qM_8, .inl (cT 0, 20, .inl fun _ => 0)), (qM_9, .inl (cT 0, 20, .inl fun _ => 0)), (qM_10, .inl (cT 0, 20, .inl fun _ => 0)), (qM_11, .inl (cT 0, 300, .inl fun _ => 0)), (qM_12, .inl (cT 3, 9, .inl fun _ => 0)), (qM_13, .inl (cT 3, 9, .inl fun _ => 0)), (qM_14, .inl (cT 3, 9, .inl fun _ => 0))] H := hP
  have hD : va_D (fun q : Nat => s.heap.size ≤ q) [(qO, .inr (0, [.ref qO_0, .ref qO_2, .ref qO_4, .ref qO_8, .ref qO_10, .int 0, .int 0, .int 0, .int 1, .ref qO_14, .int 0])), (qO_0, .inr (1, [.ref qO_1, .int 0, .int 0])), (qO_1, .inl (cT 2, 300, .inl fun _ => 0)), (qO_2, .inr (2, [.ref qO_3, .int 0, .int 0])), (qO_3, .inl (cT 2, 300, .inl fun _ => 0)), (qO_4, .inr (3, [.ref qO_5, .ref qO_6, .ref qO_7, .int 0])), (qO_5, .inl (cT 0, 12, .inl fun _ => 0)), (qO_6, .inl (cT 0, 12, .inl fun _ => 0)), (qO_7, .inl (cT 1, 12, .inr (.inl fun _ => 0))), (qO_8, .inr (4, [.ref qO_9, .int 0, .int 0])), (qO_9, .inl (cT 0, 10, .inl fun _ => 0)), (qO_10, .inr (5, [.ref qO_11, .ref qO_12, .ref qO_13, .int 0])), (qO_11, .inl (cT 0, 20, .inl fun _ => 0)), (qO_12, .inl (cT 0, 20, .inl fun _ => 0)), (qO_13, .inl (cT 0, 20, .inl fun _ => 0)), (qO_14, .inl (cT 0, 149, .inl fun _ => 0)), (qM, .inr (6, [.int 0, .ref qM_0, .int 0, .ref qM_1, .ref qM_2, .int 0, .ref qM_3, .int 0, .ref qM_4, .ref qM_5, .ref qM_6, .int 0, .int 0, .ref qM_7, .int 0, .int 0, .int 0, .int 1, .int 0, .ref qM_8, .ref qM_9, .ref qM_10, .int 0, .ref qM_11, .ref qM_12, .ref qM_13, .ref qM_14])), (qM_0, .inl (cT 0, 300, .inl fun _ => 0)), (qM_1, .inl (cT 0, 300, .inl fun _ => 0)), (qM_2, .inl (cT 0, 21, .inl fun _ => 0)), (qM_3, .inl (cT 0, 21, .inl fun _ => 0)), (qM_4, .inl (cT 0, 12, .inl fun _ => 0)), (qM_5, .inl (cT 0, 12, .inl fun _ => 0)), (qM_6, .inl (cT 1, 12, .inr (.inl fun _ => 0))), (qM_7, .inl (cT 3, 100, .inl fun _ => 0)), (qM_8, .inl (cT 0, 20, .inl fun _ => 0)), (qM_9, .inl (cT 0, 20, .inl fun _ => 0)), (qM_10, .inl (cT 0, 20, .inl fun _ => 0)), (qM_11, .inl (cT 0, 300, .inl fun _ => 0)), (qM_12, .inl (cT 3, 9, .inl fun _ => 0)), (qM_13, .inl (cT 3, 9, .inl fun _ => 0)), (qM_14, .inl (cT 3, 9, .inl fun _ => 0))] := hD
  refine lv_astore_n (lv' := [(2, .ref qM), (1, .ref qO), (0, .ref b)]) hx hb d_law_15 rfl hl (by decide) rfl (fun ls hl => ?_)
  refine lv_iconst (v := 1) hx hb d_law_16 (by decide) ?_
  refine na_long (n := 1) (N := 1) hx hb (hts _ iw_2603678b) hK hP hD hS hA (by decide) (by decide) (by decide) (Nat.le_of_ble_eq_true rfl) (Nat.le_of_ble_eq_true rfl) d_law_17 (fun qU H hP hD hS => ?_)
  have hP : va_P D classes [(qO, .inr (0, [.ref qO_0, .ref qO_2, .ref qO_4, .ref qO_8, .ref qO_10, .int 0, .int 0, .int 0, .int 1, .ref qO_14, .int 0])), (qO_0, .inr (1, [.ref qO_1, .int 0, .int 0])), (qO_1, .inl (cT 2, 300, .inl fun _ => 0)), (qO_2, .inr (2, [.ref qO_3, .int 0, .int 0])), (qO_3, .inl (cT 2, 300, .inl fun _ => 0)), (qO_4, .inr (3, [.ref qO_5, .ref qO_6, .ref qO_7, .int 0])), (qO_5, .inl (cT 0, 12, .inl fun _ => 0)), (qO_6, .inl (cT 0, 12, .inl fun _ => 0)), (qO_7, .inl (cT 1, 12, .inr (.inl fun _ => 0))), (qO_8, .inr (4, [.ref qO_9, .int 0, .int 0])), (qO_9, .inl (cT 0, 10, .inl fun _ => 0)), (qO_10, .inr (5, [.ref qO_11, .ref qO_12, .ref qO_13, .int 0])), (qO_11, .inl (cT 0, 20, .inl fun _ => 0)), (qO_12, .inl (cT 0, 20, .inl fun _ => 0)), (qO_13, .inl (cT 0, 20, .inl fun _ => 0)), (qO_14, .inl (cT 0, 149, .inl fun _ => 0)), (qM, .inr (6, [.int 0, .ref qM_0, .int 0, .ref qM_1, .ref qM_2, .int 0, .ref qM_3, .int 0, .ref qM_4, .ref qM_5, .ref qM_6, .int 0, .int 0, .ref qM_7, .int 0, .int 0, .int 0, .int 1, .int 0, .ref qM_8, .ref qM_9, .ref qM_10, .int 0, .ref qM_11, .ref qM_12, .ref qM_13, .ref qM_14])), (qM_0, .inl (cT 0, 300, .inl fun _ => 0)), (qM_1, .inl (cT 0, 300, .inl fun _ => 0)), (qM_2, .inl (cT 0, 21, .inl fun _ => 0)), (qM_3, .inl (cT 0, 21, .inl fun _ => 0)), (qM_4, .inl (cT 0, 12, .inl fun _ => 0)), (qM_5, .inl (cT 0, 12, .inl fun _ => 0)), (qM_6, .inl (cT 1, 12, .inr (.inl fun _ => 0))), (qM_7, .inl (cT 3, 100, .inl fun _ => 0)), (qM_8, .inl (cT 0, 20, .inl fun _ => 0)), (qM_9, .inl (cT 0, 20, .inl fun _ => 0)), (qM_10, .inl (cT 0, 20, .inl fun _ => 0)), (qM_11, .inl (cT 0, 300, .inl fun _ => 0)), (qM_12, .inl (cT 3, 9, .inl fun _ => 0)), (qM_13, .inl (cT 3, 9, .inl fun _ => 0)), (qM_14, .inl (cT 3, 9, .inl fun _ => 0)), (qU, .inl (cT 1, 1, .inr (.inl fun _ => 0)))] H := hP
  have hD : va_D (fun q : Nat => s.heap.size ≤ q) [(qO, .inr (0, [.ref qO_0, .ref qO_2, .ref qO_4, .ref qO_8, .ref qO_10, .int 0, .int 0, .int 0, .int 1, .ref qO_14, .int 0])), (qO_0, .inr (1, [.ref qO_1, .int 0, .int 0])), (qO_1, .inl (cT 2, 300, .inl fun _ => 0)), (qO_2, .inr (2, [.ref qO_3, .int 0, .int 0])), (qO_3, .inl (cT 2, 300, .inl fun _ => 0)), (qO_4, .inr (3, [.ref qO_5, .ref qO_6, .ref qO_7, .int 0])), (qO_5, .inl (cT 0, 12, .inl fun _ => 0)), (qO_6, .inl (cT 0, 12, .inl fun _ => 0)), (qO_7, .inl (cT 1, 12, .inr (.inl fun _ => 0))), (qO_8, .inr (4, [.ref qO_9, .int 0, .int 0])), (qO_9, .inl (cT 0, 10, .inl fun _ => 0)), (qO_10, .inr (5, [.ref qO_11, .ref qO_12, .ref qO_13, .int 0])), (qO_11, .inl (cT 0, 20, .inl fun _ => 0)), (qO_12, .inl (cT 0, 20, .inl fun _ => 0)), (qO_13, .inl (cT 0, 20, .inl fun _ => 0)), (qO_14, .inl (cT 0, 149, .inl fun _ => 0)), (qM, .inr (6, [.int 0, .ref qM_0, .int 0, .ref qM_1, .ref qM_2, .int 0, .ref qM_3, .int 0, .ref qM_4, .ref qM_5, .ref qM_6, .int 0, .int 0, .ref qM_7, .int 0, .int 0, .int 0, .int 1, .int 0, .ref qM_8, .ref qM_9, .ref qM_10, .int 0, .ref qM_11, .ref qM_12, .ref qM_13, .ref qM_14])), (qM_0, .inl (cT 0, 300, .inl fun _ => 0)), (qM_1, .inl (cT 0, 300, .inl fun _ => 0)), (qM_2, .inl (cT 0, 21, .inl fun _ => 0)), (qM_3, .inl (cT 0, 21, .inl fun _ => 0)), (qM_4, .inl (cT 0, 12, .inl fun _ => 0)), (qM_5, .inl (cT 0, 12, .inl fun _ => 0)), (qM_6, .inl (cT 1, 12, .inr (.inl fun _ => 0))), (qM_7, .inl (cT 3, 100, .inl fun _ => 0)), (qM_8, .inl (cT 0, 20, .inl fun _ => 0)), (qM_9, .inl (cT 0, 20, .inl fun _ => 0)), (qM_10, .inl (cT 0, 20, .inl fun _ => 0)), (qM_11, .inl (cT 0, 300, .inl fun _ => 0)), (qM_12, .inl (cT 3, 9, .inl fun _ => 0)), (qM_13, .inl (cT 3, 9, .inl fun _ => 0)), (qM_14, .inl (cT 3, 9, .inl fun _ => 0)), (qU, .inl (cT 1, 1, .inr (.inl fun _ => 0)))] := hD
  refine lv_astore_n (lv' := [(3, .ref qU), (2, .ref qM), (1, .ref qO), (0, .ref b)]) hx hb d_law_19 rfl hl (by decide) rfl (fun ls hl => ?_)
  refine lv_iconst (v := 0) hx hb d_law_20 (by decide) ?_
  refine lv_istore (lv' := [(4, .int 0), (3, .ref qU), (2, .ref qM), (1, .ref qO), (0, .ref b)]) hx hb d_law_21 hl (by decide) rfl (fun ls hl => ?_)
  have hP9 := hP.sub (ws' := [(qO, .inr (0, [.ref qO_0, .ref qO_2, .ref qO_4, .ref qO_8, .ref qO_10, .int 0, .int 0, .int 0, .int 1, .ref qO_14, .int 0])), (qO_14, .inl (cT 0, 149, .inl (fun _ => 0))), (qO_0, .inr (1, [.ref qO_1, .int 0, .int 0])), (qO_1, .inl (cT 2, 300, .inl (fun _ => 0))), (qO_2, .inr (2, [.ref qO_3, .int 0, .int 0])), (qO_3, .inl (cT 2, 300, .inl (fun _ => 0))), (qO_4, .inr (3, [.ref qO_5, .ref qO_6, .ref qO_7, .int 0])), (qO_5, .inl (cT 0, 12, .inl (fun _ => 0))), (qO_6, .inl (cT 0, 12, .inl (fun _ => 0))), (qO_7, .inl (cT 1, 12, .inr (.inl (fun _ => 0)))), (qO_8, .inr (4, [.ref qO_9, .int 0, .int (bI false)])), (qO_9, .inl (cT 0, 10, .inl (fun _ => 0))), (qO_10, .inr (5, [.ref qO_11, .ref qO_12, .ref qO_13, .int 0])), (qO_11, .inl (cT 0, 20, .inl (fun _ => 0))), (qO_12, .inl (cT 0, 20, .inl (fun _ => 0))), (qO_13, .inl (cT 0, 20, .inl (fun _ => 0))), (qM, .inr (6, [.int 0, .ref qM_0, .int 0, .ref qM_1, .ref qM_2, .int 0, .ref qM_3, .int 0, .ref qM_4, .ref qM_5, .ref qM_6, .int 0, .int 0, .ref qM_7, .int 0, .int (bI false), .int 0, .int 1, .int 0, .ref qM_8, .ref qM_9, .ref qM_10, .int 0, .ref qM_11, .ref qM_12, .ref qM_13, .ref qM_14])), (qM_0, .inl (cT 0, 300, .inl (fun _ => 0))), (qM_1, .inl (cT 0, 300, .inl (fun _ => 0))), (qM_2, .inl (cT 0, 21, .inl (fun _ => 0))), (qM_3, .inl (cT 0, 21, .inl (fun _ => 0))), (qM_4, .inl (cT 0, 12, .inl (fun _ => 0))), (qM_5, .inl (cT 0, 12, .inl (fun _ => 0))), (qM_6, .inl (cT 1, 12, .inr (.inl (fun _ => 0)))), (qM_7, .inl (cT 3, 100, .inl (fun _ => 0))), (qM_8, .inl (cT 0, 20, .inl (fun _ => 0))), (qM_9, .inl (cT 0, 20, .inl (fun _ => 0))), (qM_10, .inl (cT 0, 20, .inl (fun _ => 0))), (qM_11, .inl (cT 0, 300, .inl (fun _ => 0))), (qM_12, .inl (cT 3, 9, .inl (fun _ => 0))), (qM_13, .inl (cT 3, 9, .inl (fun _ => 0))), (qM_14, .inl (cT 3, 9, .inl (fun _ => 0))), (qU, .inl (cT 1, 1, .inr (.inl (fun _ => 0))))]) [0, 15, 1, 2, 3, 4, 5, 6, 7, 8, 9, 10, 11, 12, 13, 14, 16, 17, 18, 19, 20, 21, 22, 23, 24, 25, 26, 27, 28, 29, 30, 31, 32] rfl
  have hD9 := hD.sub (ws' := [(qO, .inr (0, [.ref qO_0, .ref qO_2, .ref qO_4, .ref qO_8, .ref qO_10, .int 0, .int 0, .int 0, .int 1, .ref qO_14, .int 0])), (qO_14, .inl (cT 0, 149, .inl (fun _ => 0))), (qO_0, .inr (1, [.ref qO_1, .int 0, .int 0])), (qO_1, .inl (cT 2, 300, .inl (fun _ => 0))), (qO_2, .inr (2, [.ref qO_3, .int 0, .int 0])), (qO_3, .inl (cT 2, 300, .inl (fun _ => 0))), (qO_4, .inr (3, [.ref qO_5, .ref qO_6, .ref qO_7, .int 0])), (qO_5, .inl (cT 0, 12, .inl (fun _ => 0))), (qO_6, .inl (cT 0, 12, .inl (fun _ => 0))), (qO_7, .inl (cT 1, 12, .inr (.inl (fun _ => 0)))), (qO_8, .inr (4, [.ref qO_9, .int 0, .int (bI false)])), (qO_9, .inl (cT 0, 10, .inl (fun _ => 0))), (qO_10, .inr (5, [.ref qO_11, .ref qO_12, .ref qO_13, .int 0])), (qO_11, .inl (cT 0, 20, .inl (fun _ => 0))), (qO_12, .inl (cT 0, 20, .inl (fun _ => 0))), (qO_13, .inl (cT 0, 20, .inl (fun _ => 0))), (qM, .inr (6, [.int 0, .ref qM_0, .int 0, .ref qM_1, .ref qM_2, .int 0, .ref qM_3, .int 0, .ref qM_4, .ref qM_5, .ref qM_6, .int 0, .int 0, .ref qM_7, .int 0, .int (bI false), .int 0, .int 1, .int 0, .ref qM_8, .ref qM_9, .ref qM_10, .int 0, .ref qM_11, .ref qM_12, .ref qM_13, .ref qM_14])), (qM_0, .inl (cT 0, 300, .inl (fun _ => 0))), (qM_1, .inl (cT 0, 300, .inl (fun _ => 0))), (qM_2, .inl (cT 0, 21, .inl (fun _ => 0))), (qM_3, .inl (cT 0, 21, .inl (fun _ => 0))), (qM_4, .inl (cT 0, 12, .inl (fun _ => 0))), (qM_5, .inl (cT 0, 12, .inl (fun _ => 0))), (qM_6, .inl (cT 1, 12, .inr (.inl (fun _ => 0)))), (qM_7, .inl (cT 3, 100, .inl (fun _ => 0))), (qM_8, .inl (cT 0, 20, .inl (fun _ => 0))), (qM_9, .inl (cT 0, 20, .inl (fun _ => 0))), (qM_10, .inl (cT 0, 20, .inl (fun _ => 0))), (qM_11, .inl (cT 0, 300, .inl (fun _ => 0))), (qM_12, .inl (cT 3, 9, .inl (fun _ => 0))), (qM_13, .inl (cT 3, 9, .inl (fun _ => 0))), (qM_14, .inl (cT 3, 9, .inl (fun _ => 0))), (qU, .inl (cT 1, 1, .inr (.inl (fun _ => 0))))]) [0, 15, 1, 2, 3, 4, 5, 6, 7, 8, 9, 10, 11, 12, 13, 14, 16, 17, 18, 19, 20, 21, 22, 23, 24, 25, 26, 27, 28, 29, 30, 31, 32] (by decide) rfl
  refine W.widen (k := 1067 - 600) (n := 10328 - 6 * 600) (Nat.le_of_ble_eq_true rfl) (Nat.le_of_ble_eq_true rfl) ?_
  exact law_loop hl0 C0 hE hTE hNc 600 (by decide) 0 0 0 0 1 0 (fun _ => 0) 0 0 (fun _ => 0) 0 0 (fun _ => 0) 0 (fun _ => 0) (fun _ => 0) (fun _ => 0) 0 false (fun _ => 0) 0 (fun _ => 0) (fun _ => 0) (fun _ => 0) 0 0 0 0 0 0 0 false 0 1 0 0 (fun _ => 0) (fun _ => 0) (fun _ => 0) (fun _ => 0) (fun _ => 0) (fun _ => 0) (fun _ => 0) (fun _ => 0) (fun _ => 0) (fun _ => 0) (fun _ => 0) (fun _ => 0) (fun _ => 0) (fun _ => 0) (fun _ => 0) (fun _ => 0) (law_true hL xs) _ _ _ hP9 hD9 hS (lv_sub hl [4, 3, 2, 1, 0] rfl)
set_option maxHeartbeats 4000000 in
theorem lw_walk (l : Launch) (hl0 : l.stackTraces = false) (b : Addr) (xs : List Int32) : MetFree l x (headSpec (Jvm.Cond.code x code maxLocals ret :: tables_1) room_1) (lw_P b xs) (fun _ _ _ _ _ => True) lw_Q := by
  refine MetFree.of_bodyS (code := code) (maxLocals := maxLocals) (ret := ret) (by decide) ?_ ?_
  · intro args s m h hn
    obtain ⟨meth, c, h1, h2, h3, h4, h5, h6, -, -⟩ := Cond.code_spec hn (atoms_spec (ws := Jvm.Cond.code x code maxLocals ret :: tables_1) h _ List.mem_cons_self)
    exact ⟨meth, c, h1, h2, h3, h4, h5, h6⟩
  · intro p e s m args below meth c s₁ B hml0 hP _
    obtain ⟨rfl, hx, hbd, hgv⟩ := hP
    obtain ⟨scr, harrAt, hlist, hof, hsmall⟩ := hx
    obtain ⟨hcb, hkn, -, -⟩ := State.arrayAt?_spec harrAt
    have hown : s.vm.findClass R_law = some m.cls := findClass_of_methodNamed B.named
    have hts0 : ∀ c ∈ (Jvm.Cond.code x code maxLocals ret :: tables_1), c.before #[Value.ref b] s = true := atoms_spec (ws := Jvm.Cond.code x code maxLocals ret :: tables_1) B.pre
    have hts : ∀ w ∈ lw_tbl, w.before #[Value.ref b] s = true := k2_hts_sels lw_privs (fun w hw => hts0 w (List.mem_cons_of_mem _ hw)) lw_privs_ok
    have hml : c.maxLocals = 8 := B.maxLocals_eq (hts0 _ List.mem_cons_self)
    have X₀ : Stand p l e room_1 s m #[Value.ref b] below meth c s₁ [] 0 0 := Stand.of_body B
    have hh0 : s₁.heap = s.heap := by rw [B.state]; rfl
    have hsz : scr.slots.size = xs.length := by rw [← Array.length_toList, hlist, List.length_map]
    have hval : ∀ j : Nat, j < xs.length → scr.slots[j]? = some (.int (xs.getD j 0)) := fun j hj => by
      rw [← Array.getElem?_toList, hlist]
      simp [hj]
    have hbl : b < s.heap.size := (Array.getElem?_eq_some_iff.mp hcb).1
    have hX : va_X b xs.length (fun j => xs.getD j 0) s s.heap := ⟨scr, hcb, hof, hkn, hsz, hval⟩
    have K : W p l e room_1 s m #[Value.ref b] below meth c s₁.heap [] 0 0 (lw_Z below #[Value.ref b] s) (entryFrame m ([Value.ref b] : List Value).toArray 8) := by
      rw [hh0]
      exact whole_start l hl0 hbd ⟨B.exec, B.bytes, B.returns, hml, hown, hts, hX, hbl, B.notSynchronized, hgv⟩
    obtain ⟨t, a1, o, b1, b2, b3⟩ := K s₁ rfl X₀
    exact ⟨t, o, a1, b1, b2, b3⟩
theorem lw_pre_spec {args : Array Value} {s : State} (h : (Jvm.Cond.and given_1 narrow_1).before args s = true) (hr : rest_1_c.before args s = true) : ∃ (b : Addr) (xs : List Int32), lw_P b xs args s := by
  have hs := flat_of_before _ h
  have hq := flat_of_before _ hr
  have hc : (Cond.count 1).before args s = true := hs _ (by decide +kernel)
  have harr : (Cond.arrayOf (.arg 0) .int).before args s = true := hs _ (by decide +kernel)
  have hle : (Cond.le (.length (.arg 0)) (.int 2560)).before args s = true := hs _ (by decide +kernel)
  have hlen : (Cond.isInt (.length (.arg 0))).before args s = true := hq _ (by decide +kernel)
  have hall : (Cond.all (.arg 0) (.isInt (.elem (.arg 0) (.index 0)))).before args s = true := hq _ (by decide +kernel)
  obtain ⟨b, xs, hb, hx⟩ := State.ints_of_pre rfl harr hlen hall
  have hsm : xs.length < 2 ^ 31 := hx.choose_spec.2.2.2
  have hev : (Term.length (.arg 0)).eval args s none [] s = some (.int xs.length.toInt32) := hx.length_eval hb
  have hv := Cond.le_ints hev (show (Term.int 2560).eval args s none [] s = some (.int 2560) from rfl)
  have hd : xs.length.toInt32 ≤ 2560 := by
    simpa [Cond.before, Cond.holds, hv] using hle
  have hN : xs.length ≤ 2560 := (Int32.ofNat_le_ofNat hsm (by decide)).mp (show Int32.ofNat xs.length ≤ Int32.ofNat 2560 from hd)
  exact ⟨b, xs, Cond.one_arg hc (show args[0]? = some (.ref b) from hb), hx, hN, h⟩
theorem lw_comes (l : Launch) (hl0 : l.stackTraces = false) : Comes l x (Jvm.Cond.code x code maxLocals ret :: tables_1) room_1 (fun tb e args s => Calls_1 tb e args s ∧ rest_1 tb e args s ∧ Pre_1 tb e args s)
    (fun _ _ args s o t => lw_Q args s o t) := by
  intro p e ha hc hk s m args below hf hfit hheap happ hpre
  obtain ⟨b, xs, hP⟩ := lw_pre_spec hpre.2.2 hpre.2.1
  obtain ⟨k, o, h1, h2, h3, hQ⟩ := lw_walk l hl0 b xs p e ha hc hk s m args below hf ((Spec.applies_iff_loose hf).mp happ).1 hP trivial
  exact ⟨k, o, h1, h2, h3, hQ⟩
theorem lw_frame {s t : State} {o : Outcome} {args : Array Value} (h : Framed s o t [] 1067 10328) :
    Framed s o t (fieldLocs frame_1_writes args s ++ arrayLocs frame_1_arrays args s ++ staticLocs frame_1_statics s) 1067 10328 := h
theorem lw_limb (L : Cond) (hL : ∀ (args : Array Value) (s t : State), L.after args s (.returned (some (.int 1))) t = true) :
    ArmFor flags0 classFile x code maxLocals ret World_1 tables_1 room_1 Calls_1 rest_1 Pre_1
      (fun tb e a s o t => postC L tb e a s o t ∧ Framed s o t (fieldLocs frame_1_writes a s ++ arrayLocs frame_1_arrays a s ++ staticLocs frame_1_statics s) 1067 10328) := by
  intro l hfl _ _ p e ha hc hk s m args below hf hfit hheap happ hpre
  have hl0 : l.stackTraces = false := by rw [Launch.stackTraces, hfl]; decide +kernel
  obtain ⟨k, o, h1, h2, h3, rfl, hF⟩ := lw_comes l hl0 p e ha hc hk s m args below hf hfit hheap happ hpre
  exact ⟨k, _, h1, h2, h3, hL args s _, lw_frame hF⟩
theorem i_vc : Claimed_1_1 ∧ Claimed_1_2 := ⟨lw_limb limb_1_1 (fun args s t => by simp [limb_1_1, Cond.after, Cond.holds, Cond.value]), lw_limb limb_1_2 (fun args s t => Cond.after_iff.mpr (by
  first | (rw [show limb_1_2 = Cond.eq .result (.int 1) from rfl, Cond.eq_ints (x := 1) (y := 1) rfl rfl]; simp; done) | (simp [limb_1_2, Cond.value, Term.eval]; done)))⟩

