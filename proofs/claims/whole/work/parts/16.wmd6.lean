def rm_Md_count : Room := { frames := 1, cells := 0, slots := 0, locals := 25 }
set_option maxHeartbeats 4000000 in
set_option maxRecDepth 100000 in
theorem w_Md_count_9 {p : Program} {l : Launch} {e : Env} {s : State} {m : MethodId} {args : Array Value} {below : List Frame} {meth : Method} {c : Code} {D : va_G} {cT : Nat → ClassId} {A : Nat → Prop} (S : CallFix p m c b_Md_count 4 s args TB R_Md) (hr : meth.sig.returnType = (some .int)) (hlocks : meth.locks = false) (hE : EN D cT s) (hA : ∀ q, s.heap.size ≤ q → A q) {qM : Nat} {qMtext : Nat} {qMread : Nat} {qMbegins : Nat} {qMtried : Nat} {qMpartCode : Nat} {qMpartLand : Nat} {qMpartCents : Nat} {qMjoined : Nat} {qMproofKind : Nat} {qMproofFrom : Nat} {qMproofTo : Nat} {qMtold : Nat} {qMlive : Nat} {qMany : Nat} {qMall : Nat} {e_signs : Int32} {e_rows : Int32} {e_parts : Int32} {e_done : Int32} {e_barred : Int32} {e_pairs : Int32} {e_full : Bool} {e_up : Int32} {e_down : Int32} {e_proofs : Int32} {e_asked : Int32} {e_text : Nat → Int32} {e_read : Nat → Int32} {e_begins : Nat → Int32} {e_tried : Nat → Int32} {e_partCode : Nat → Int32} {e_partLand : Nat → Int32} {e_partCents : Nat → Int64} {e_joined : Nat → Int32} {e_proofKind : Nat → Int32} {e_proofFrom : Nat → Int32} {e_proofTo : Nat → Int32} {e_told : Nat → Int32} {e_live : Nat → Int32} {e_any : Nat → Int32} {e_all : Nat → Int32} {p1 : Int32} {rr : Int32} {o_e_thrown : Int32} : ∀ (n : Nat) (x2 : Int32) (x3 : Int32) (e_thrown : Int32), k_Md_count_9 e_signs e_rows e_parts e_done e_pairs e_full e_proofs e_asked e_partLand e_joined p1  n x2 x3 e_thrown = some (rr, o_e_thrown) → ∀ (H : Heap) (locs : List Loc) (ls : Array Slot), va_P D classes [(qM, .inr (6, [.int e_thrown, .ref qMtext, .int e_signs, .ref qMread, .ref qMbegins, .int e_rows, .ref qMtried, .int e_parts, .ref qMpartCode, .ref qMpartLand, .ref qMpartCents, .int e_done, .int e_barred, .ref qMjoined, .int e_pairs, .int (bI e_full), .int e_up, .int e_down, .int e_proofs, .ref qMproofKind, .ref qMproofFrom, .ref qMproofTo, .int e_asked, .ref qMtold, .ref qMlive, .ref qMany, .ref qMall])), (qMtext, .inl (cT 0, 300, .inl e_text)), (qMread, .inl (cT 0, 300, .inl e_read)), (qMbegins, .inl (cT 0, 21, .inl e_begins)), (qMtried, .inl (cT 0, 21, .inl e_tried)), (qMpartCode, .inl (cT 0, 12, .inl e_partCode)), (qMpartLand, .inl (cT 0, 12, .inl e_partLand)), (qMpartCents, .inl (cT 1, 12, .inr (.inl e_partCents))), (qMjoined, .inl (cT 3, 100, .inl e_joined)), (qMproofKind, .inl (cT 0, 20, .inl e_proofKind)), (qMproofFrom, .inl (cT 0, 20, .inl e_proofFrom)), (qMproofTo, .inl (cT 0, 20, .inl e_proofTo)), (qMtold, .inl (cT 0, 300, .inl e_told)), (qMlive, .inl (cT 3, 9, .inl e_live)), (qMany, .inl (cT 3, 9, .inl e_any)), (qMall, .inl (cT 3, 9, .inl e_all))] H → va_D A [(qM, .inr (6, [.int e_thrown, .ref qMtext, .int e_signs, .ref qMread, .ref qMbegins, .int e_rows, .ref qMtried, .int e_parts, .ref qMpartCode, .ref qMpartLand, .ref qMpartCents, .int e_done, .int e_barred, .ref qMjoined, .int e_pairs, .int (bI e_full), .int e_up, .int e_down, .int e_proofs, .ref qMproofKind, .ref qMproofFrom, .ref qMproofTo, .int e_asked, .ref qMtold, .ref qMlive, .ref qMany, .ref qMall])), (qMtext, .inl (cT 0, 300, .inl e_text)), (qMread, .inl (cT 0, 300, .inl e_read)), (qMbegins, .inl (cT 0, 21, .inl e_begins)), (qMtried, .inl (cT 0, 21, .inl e_tried)), (qMpartCode, .inl (cT 0, 12, .inl e_partCode)), (qMpartLand, .inl (cT 0, 12, .inl e_partLand)), (qMpartCents, .inl (cT 1, 12, .inr (.inl e_partCents))), (qMjoined, .inl (cT 3, 100, .inl e_joined)), (qMproofKind, .inl (cT 0, 20, .inl e_proofKind)), (qMproofFrom, .inl (cT 0, 20, .inl e_proofFrom)), (qMproofTo, .inl (cT 0, 20, .inl e_proofTo)), (qMtold, .inl (cT 0, 300, .inl e_told)), (qMlive, .inl (cT 3, 9, .inl e_live)), (qMany, .inl (cT 3, 9, .inl e_any)), (qMall, .inl (cT 3, 9, .inl e_all))] → va_S A s.heap H locs → lv_has ls 4 [(0, .ref qM), (1, .int p1), (2, .int x2), (3, .int x3)] → W p l e (headSpec (WS y_Md_count b_Md_count 4 (some .int)) rm_Md_count).room s m args below meth c H locs 0 0 (MQ below (qW D A [(qM, .inr (6, [.int o_e_thrown, .ref qMtext, .int e_signs, .ref qMread, .ref qMbegins, .int e_rows, .ref qMtried, .int e_parts, .ref qMpartCode, .ref qMpartLand, .ref qMpartCents, .int e_done, .int e_barred, .ref qMjoined, .int e_pairs, .int (bI e_full), .int e_up, .int e_down, .int e_proofs, .ref qMproofKind, .ref qMproofFrom, .ref qMproofTo, .int e_asked, .ref qMtold, .ref qMlive, .ref qMany, .ref qMall])), (qMtext, .inl (cT 0, 300, .inl e_text)), (qMread, .inl (cT 0, 300, .inl e_read)), (qMbegins, .inl (cT 0, 21, .inl e_begins)), (qMtried, .inl (cT 0, 21, .inl e_tried)), (qMpartCode, .inl (cT 0, 12, .inl e_partCode)), (qMpartLand, .inl (cT 0, 12, .inl e_partLand)), (qMpartCents, .inl (cT 1, 12, .inr (.inl e_partCents))), (qMjoined, .inl (cT 3, 100, .inl e_joined)), (qMproofKind, .inl (cT 0, 20, .inl e_proofKind)), (qMproofFrom, .inl (cT 0, 20, .inl e_proofFrom)), (qMproofTo, .inl (cT 0, 20, .inl e_proofTo)), (qMtold, .inl (cT 0, 300, .inl e_told)), (qMlive, .inl (cT 3, 9, .inl e_live)), (qMany, .inl (cT 3, 9, .inl e_any)), (qMall, .inl (cT 3, 9, .inl e_all))] (some (.int rr))) args s 0 0 A) (F0 m 9 ls []) := by
  obtain ⟨hx, hb, hml, hown, hts⟩ := id S
  have hK := hE.1
  have hN := hE.2
  intro n
  induction n with
  | zero =>
    intro x2 x3 e_thrown hM
    rw [k_Md_count_9_z] at hM
    cases hM
  | succ n ih =>
    intro x2 x3 e_thrown hM H locs ls hP hD hS hl
    rw [k_Md_count_9_s] at hM
    refine lv_iload_n hx hb d_Md_count_9 rfl (lv_at hl 3 rfl) ?_
    refine lv_aload_n hx hb d_Md_count_10 rfl (lv_at hl 0 rfl) ?_
    refine va_get (D := D) (ci := 6) (v := .int e_parts) (C := R_Md) (T := F_Md) (N := 27) hx hb hts i_Md hown hK hP 0 rfl rfl 7 (by decide) (hts _ iw_b1d571b6) (fun _ h9 => h9) rfl d_Md_count_11 ?_
    refine lv_icmp_ge (tgt := 44) hx hb d_Md_count_14 (by decide) (fun c_14 => ?_) (fun c_14 => ?_)
    · have hM := itT hM c_14
      refine lv_iload_n hx hb d_Md_count_44 rfl (lv_at hl 1 rfl) ?_
      by_cases c_45_0 : p1 = 0
      · have hM := itT hM c_45_0
        refine lv_tableIn (tgt := 92) hx hb d_Md_count_45 (by rw [c_45_0]; decide) (by rw [c_45_0]; decide) (by rw [c_45_0]; rfl) (by decide) ?_
        refine lv_aload_n hx hb d_Md_count_92 rfl (lv_at hl 0 rfl) ?_
        refine va_get (D := D) (ci := 6) (v := .int e_signs) (C := R_Md) (T := F_Md) (N := 27) hx hb hts i_Md hown hK hP 0 rfl rfl 2 (by decide) (hts _ iw_e9a7d4dc) (fun _ h9 => h9) rfl d_Md_count_93 ?_
        obtain ⟨eo0, eo1⟩ := so2T hM
        subst eo0
        subst eo1
        exact rt_i S hr hlocks hP hD hS d_Md_count_96
      · have hM := itF hM c_45_0
        by_cases c_45_1 : p1 = 1
        · have hM := itT hM c_45_1
          refine lv_tableIn (tgt := 97) hx hb d_Md_count_45 (by rw [c_45_1]; decide) (by rw [c_45_1]; decide) (by rw [c_45_1]; rfl) (by decide) ?_
          refine lv_aload_n hx hb d_Md_count_97 rfl (lv_at hl 0 rfl) ?_
          refine va_get (D := D) (ci := 6) (v := .int e_rows) (C := R_Md) (T := F_Md) (N := 27) hx hb hts i_Md hown hK hP 0 rfl rfl 5 (by decide) (hts _ iw_fa3d8e22) (fun _ h9 => h9) rfl d_Md_count_98 ?_
          obtain ⟨eo0, eo1⟩ := so2T hM
          subst eo0
          subst eo1
          exact rt_i S hr hlocks hP hD hS d_Md_count_101
        · have hM := itF hM c_45_1
          by_cases c_45_2 : p1 = 2
          · have hM := itT hM c_45_2
            refine lv_tableIn (tgt := 102) hx hb d_Md_count_45 (by rw [c_45_2]; decide) (by rw [c_45_2]; decide) (by rw [c_45_2]; rfl) (by decide) ?_
            refine lv_aload_n hx hb d_Md_count_102 rfl (lv_at hl 0 rfl) ?_
            refine va_get (D := D) (ci := 6) (v := .int e_parts) (C := R_Md) (T := F_Md) (N := 27) hx hb hts i_Md hown hK hP 0 rfl rfl 7 (by decide) (hts _ iw_b1d571b6) (fun _ h9 => h9) rfl d_Md_count_103 ?_
            obtain ⟨eo0, eo1⟩ := so2T hM
            subst eo0
            subst eo1
            exact rt_i S hr hlocks hP hD hS d_Md_count_106
          · have hM := itF hM c_45_2
            by_cases c_45_3 : p1 = 3
            · have hM := itT hM c_45_3
              refine lv_tableIn (tgt := 107) hx hb d_Md_count_45 (by rw [c_45_3]; decide) (by rw [c_45_3]; decide) (by rw [c_45_3]; rfl) (by decide) ?_
              refine lv_iload_n hx hb d_Md_count_107 rfl (lv_at hl 2 rfl) ?_
              obtain ⟨eo0, eo1⟩ := so2T hM
              subst eo0
              subst eo1
              exact rt_i S hr hlocks hP hD hS d_Md_count_108
            · have hM := itF hM c_45_3
              by_cases c_45_4 : p1 = 4
              · have hM := itT hM c_45_4
                refine lv_tableIn (tgt := 109) hx hb d_Md_count_45 (by rw [c_45_4]; decide) (by rw [c_45_4]; decide) (by rw [c_45_4]; rfl) (by decide) ?_
                refine lv_aload_n hx hb d_Md_count_109 rfl (lv_at hl 0 rfl) ?_
                refine va_get (D := D) (ci := 6) (v := .int e_done) (C := R_Md) (T := F_Md) (N := 27) hx hb hts i_Md hown hK hP 0 rfl rfl 11 (by decide) (hts _ iw_e22844af) (fun _ h9 => h9) rfl d_Md_count_110 ?_
                obtain ⟨eo0, eo1⟩ := so2T hM
                subst eo0
                subst eo1
                exact rt_i S hr hlocks hP hD hS d_Md_count_113
              · have hM := itF hM c_45_4
                by_cases c_45_5 : p1 = 5
                · have hM := itT hM c_45_5
                  refine lv_tableIn (tgt := 114) hx hb d_Md_count_45 (by rw [c_45_5]; decide) (by rw [c_45_5]; decide) (by rw [c_45_5]; rfl) (by decide) ?_
                  refine lv_aload_n hx hb d_Md_count_114 rfl (lv_at hl 0 rfl) ?_
                  refine va_get (D := D) (ci := 6) (v := .int e_pairs) (C := R_Md) (T := F_Md) (N := 27) hx hb hts i_Md hown hK hP 0 rfl rfl 14 (by decide) (hts _ iw_6cf49e60) (fun _ h9 => h9) rfl d_Md_count_115 ?_
                  obtain ⟨eo0, eo1⟩ := so2T hM
                  subst eo0
                  subst eo1
                  exact rt_i S hr hlocks hP hD hS d_Md_count_118
                · have hM := itF hM c_45_5
                  by_cases c_45_6 : p1 = 6
                  · have hM := itT hM c_45_6
                    refine lv_tableIn (tgt := 119) hx hb d_Md_count_45 (by rw [c_45_6]; decide) (by rw [c_45_6]; decide) (by rw [c_45_6]; rfl) (by decide) ?_
                    refine lv_aload_n hx hb d_Md_count_119 rfl (lv_at hl 0 rfl) ?_
                    refine va_get (D := D) (ci := 6) (v := .int e_proofs) (C := R_Md) (T := F_Md) (N := 27) hx hb hts i_Md hown hK hP 0 rfl rfl 18 (by decide) (hts _ iw_dcc6e048) (fun _ h9 => h9) rfl d_Md_count_120 ?_
                    obtain ⟨eo0, eo1⟩ := so2T hM
                    subst eo0
                    subst eo1
                    exact rt_i S hr hlocks hP hD hS d_Md_count_123
                  · have hM := itF hM c_45_6
                    by_cases c_45_7 : p1 = 7
                    · have hM := itT hM c_45_7
                      refine lv_tableIn (tgt := 124) hx hb d_Md_count_45 (by rw [c_45_7]; decide) (by rw [c_45_7]; decide) (by rw [c_45_7]; rfl) (by decide) ?_
                      refine lv_aload_n hx hb d_Md_count_124 rfl (lv_at hl 0 rfl) ?_
                      refine va_get (D := D) (ci := 6) (v := .int e_asked) (C := R_Md) (T := F_Md) (N := 27) hx hb hts i_Md hown hK hP 0 rfl rfl 22 (by decide) (hts _ iw_7f615671) (fun _ h9 => h9) rfl d_Md_count_125 ?_
                      obtain ⟨eo0, eo1⟩ := so2T hM
                      subst eo0
                      subst eo1
                      exact rt_i S hr hlocks hP hD hS d_Md_count_128
                    · have hM := itF hM c_45_7
                      refine lv_tableOut (tgt := 129) hx hb d_Md_count_45 (tsw8 c_45_0 c_45_1 c_45_2 c_45_3 c_45_4 c_45_5 c_45_6 c_45_7) (by decide) ?_
                      refine lv_iconst (v := (-1)) hx hb d_Md_count_129 (by decide) ?_
                      obtain ⟨eo0, eo1⟩ := so2T hM
                      subst eo0
                      subst eo1
                      exact rt_i S hr hlocks hP hD hS d_Md_count_130
    · have hM := itF hM c_14
      refine lv_iload_n hx hb d_Md_count_17 rfl (lv_at hl 2 rfl) ?_
      refine lv_aload_n hx hb d_Md_count_18 rfl (lv_at hl 0 rfl) ?_
      refine lv_aload_n hx hb d_Md_count_19 rfl (lv_at hl 0 rfl) ?_
      refine va_get (D := D) (ci := 6) (v := .ref qMpartLand) (C := R_Md) (T := F_Md) (N := 27) hx hb hts i_Md hown hK hP 0 rfl rfl 9 (by decide) (hts _ iw_533296a2) (fun _ h9 => h9) rfl d_Md_count_20 ?_
      refine lv_iload_n hx hb d_Md_count_23 rfl (lv_at hl 3 rfl) ?_
      obtain ⟨hin_24, hM⟩ := ixT hM
      refine va_iald hx hb hK hP 6 0 rfl rfl hin_24 d_Md_count_24 ?_
      obtain ⟨r_25, hc_25, hM⟩ := bd1T hM
      refine ca_V (As := [.int (e_partLand x3.toNatClampNeg)]) (rest := [.int x2]) (wr := []) (w2 := [(qM, .inr (6, [.int e_thrown, .ref qMtext, .int e_signs, .ref qMread, .ref qMbegins, .int e_rows, .ref qMtried, .int e_parts, .ref qMpartCode, .ref qMpartLand, .ref qMpartCents, .int e_done, .int e_barred, .ref qMjoined, .int e_pairs, .int (bI e_full), .int e_up, .int e_down, .int e_proofs, .ref qMproofKind, .ref qMproofFrom, .ref qMproofTo, .int e_asked, .ref qMtold, .ref qMlive, .ref qMany, .ref qMall])), (qMtext, .inl (cT 0, 300, .inl e_text)), (qMread, .inl (cT 0, 300, .inl e_read)), (qMbegins, .inl (cT 0, 21, .inl e_begins)), (qMtried, .inl (cT 0, 21, .inl e_tried)), (qMpartCode, .inl (cT 0, 12, .inl e_partCode)), (qMpartLand, .inl (cT 0, 12, .inl e_partLand)), (qMpartCents, .inl (cT 1, 12, .inr (.inl e_partCents))), (qMjoined, .inl (cT 3, 100, .inl e_joined)), (qMproofKind, .inl (cT 0, 20, .inl e_proofKind)), (qMproofFrom, .inl (cT 0, 20, .inl e_proofFrom)), (qMproofTo, .inl (cT 0, 20, .inl e_proofTo)), (qMtold, .inl (cT 0, 300, .inl e_told)), (qMlive, .inl (cT 3, 9, .inl e_live)), (qMany, .inl (cT 3, 9, .inl e_any)), (qMall, .inl (cT 3, 9, .inl e_all))]) S hE (c_Md_isOwn l D cT qM qMtext qMread qMbegins qMtried qMpartCode qMpartLand qMpartCents qMjoined qMproofKind qMproofFrom qMproofTo qMtold qMlive qMany qMall e_thrown e_signs e_rows e_parts e_done e_barred e_pairs e_full e_up e_down e_proofs e_asked e_text e_read e_begins e_tried e_partCode e_partLand e_partCents e_joined e_proofKind e_proofFrom e_proofTo e_told e_live e_any e_all (e_partLand x3.toNatClampNeg) hc_25) gw_5c48b2f4 rfl rfl ⟨Nat.le_of_ble_eq_true rfl, Nat.le_of_ble_eq_true rfl⟩ (ci := 6) rfl rfl (k0 := 0) rfl rfl hl.1 rfl (Nat.le_of_ble_eq_true rfl) d_Md_count_25 ⟨Nat.zero_le _, Nat.zero_le _⟩ hP hD hS hA [0, 1, 2, 3, 4, 5, 6, 7, 8, 9, 10, 11, 12, 13, 14, 15] [] [0, 1, 2, 3, 4, 5, 6, 7, 8, 9, 10, 11, 12, 13, 14, 15] rfl rfl (by decide) (by decide) rfl (by decide) (by decide) (fun H locs hP hD hS => ?_)
      refine lv_if_eq (tgt := 35) hx hb d_Md_count_28 (by decide) (fun c_28 => ?_) (fun c_28 => ?_)
      · have hM := itT hM c_28
        refine lv_iconst (v := 1) hx hb d_Md_count_35 (by decide) ?_
        refine lv_iadd hx hb d_Md_count_36 ?_
        refine lv_istore_n (lv' := [(2, .int (x2 + 1)), (0, .ref qM), (1, .int p1), (3, .int x3)]) hx hb d_Md_count_37 rfl hl (by decide) rfl (fun ls hl => ?_)
        refine lv_iinc (v := x3 + 1) (lv' := [(3, .int (x3 + 1)), (2, .int (x2 + 1)), (0, .ref qM), (1, .int p1)]) hx hb d_Md_count_38 hl (k := 3) rfl rfl (by decide) rfl (fun ls hl => ?_)
        refine lv_goto (tgt := 9) hx hb d_Md_count_41 (by decide) ?_
        exact ih (x2 + 1) (x3 + 1) e_thrown hM _ _ _ hP hD hS (lv_sub hl [2, 3, 1, 0] rfl)
      · have hM := itF hM c_28
        refine lv_iconst (v := 0) hx hb d_Md_count_31 (by decide) ?_
        refine lv_goto (tgt := 36) hx hb d_Md_count_32 (by decide) ?_
        refine lv_iadd hx hb d_Md_count_36 ?_
        refine lv_istore_n (lv' := [(2, .int (x2 + 0)), (0, .ref qM), (1, .int p1), (3, .int x3)]) hx hb d_Md_count_37 rfl hl (by decide) rfl (fun ls hl => ?_)
        refine lv_iinc (v := x3 + 1) (lv' := [(3, .int (x3 + 1)), (2, .int (x2 + 0)), (0, .ref qM), (1, .int p1)]) hx hb d_Md_count_38 hl (k := 3) rfl rfl (by decide) rfl (fun ls hl => ?_)
        refine lv_goto (tgt := 9) hx hb d_Md_count_41 (by decide) ?_
        exact ih (x2 + 0) (x3 + 1) e_thrown hM _ _ _ hP hD hS (lv_sub hl [2, 3, 1, 0] rfl)
set_option maxHeartbeats 4000000 in
set_option maxRecDepth 100000 in
theorem c_Md_count (l : Launch) (D : va_G) (cT : Nat → ClassId) (qM : Nat) (qMtext : Nat) (qMread : Nat) (qMbegins : Nat) (qMtried : Nat) (qMpartCode : Nat) (qMpartLand : Nat) (qMpartCents : Nat) (qMjoined : Nat) (qMproofKind : Nat) (qMproofFrom : Nat) (qMproofTo : Nat) (qMtold : Nat) (qMlive : Nat) (qMany : Nat) (qMall : Nat) (e_thrown : Int32) (e_signs : Int32) (e_rows : Int32) (e_parts : Int32) (e_done : Int32) (e_barred : Int32) (e_pairs : Int32) (e_full : Bool) (e_up : Int32) (e_down : Int32) (e_proofs : Int32) (e_asked : Int32) (e_text : Nat → Int32) (e_read : Nat → Int32) (e_begins : Nat → Int32) (e_tried : Nat → Int32) (e_partCode : Nat → Int32) (e_partLand : Nat → Int32) (e_partCents : Nat → Int64) (e_joined : Nat → Int32) (e_proofKind : Nat → Int32) (e_proofFrom : Nat → Int32) (e_proofTo : Nat → Int32) (e_told : Nat → Int32) (e_live : Nat → Int32) (e_any : Nat → Int32) (e_all : Nat → Int32) (p1 : Int32) {rr : Int32} {o_e_thrown : Int32} (hM : m_Md_count p1 e_signs e_rows e_parts e_done e_pairs e_full e_proofs e_asked e_partLand e_joined e_thrown = some (rr, o_e_thrown)) : Ct l y_Md_count (WS y_Md_count b_Md_count 4 (some .int)) rm_Md_count D cT [.ref qM, .int p1] [(qM, .inr (6, [.int e_thrown, .ref qMtext, .int e_signs, .ref qMread, .ref qMbegins, .int e_rows, .ref qMtried, .int e_parts, .ref qMpartCode, .ref qMpartLand, .ref qMpartCents, .int e_done, .int e_barred, .ref qMjoined, .int e_pairs, .int (bI e_full), .int e_up, .int e_down, .int e_proofs, .ref qMproofKind, .ref qMproofFrom, .ref qMproofTo, .int e_asked, .ref qMtold, .ref qMlive, .ref qMany, .ref qMall])), (qMtext, .inl (cT 0, 300, .inl e_text)), (qMread, .inl (cT 0, 300, .inl e_read)), (qMbegins, .inl (cT 0, 21, .inl e_begins)), (qMtried, .inl (cT 0, 21, .inl e_tried)), (qMpartCode, .inl (cT 0, 12, .inl e_partCode)), (qMpartLand, .inl (cT 0, 12, .inl e_partLand)), (qMpartCents, .inl (cT 1, 12, .inr (.inl e_partCents))), (qMjoined, .inl (cT 3, 100, .inl e_joined)), (qMproofKind, .inl (cT 0, 20, .inl e_proofKind)), (qMproofFrom, .inl (cT 0, 20, .inl e_proofFrom)), (qMproofTo, .inl (cT 0, 20, .inl e_proofTo)), (qMtold, .inl (cT 0, 300, .inl e_told)), (qMlive, .inl (cT 3, 9, .inl e_live)), (qMany, .inl (cT 3, 9, .inl e_any)), (qMall, .inl (cT 3, 9, .inl e_all))] (some (.int rr)) [(qM, .inr (6, [.int o_e_thrown, .ref qMtext, .int e_signs, .ref qMread, .ref qMbegins, .int e_rows, .ref qMtried, .int e_parts, .ref qMpartCode, .ref qMpartLand, .ref qMpartCents, .int e_done, .int e_barred, .ref qMjoined, .int e_pairs, .int (bI e_full), .int e_up, .int e_down, .int e_proofs, .ref qMproofKind, .ref qMproofFrom, .ref qMproofTo, .int e_asked, .ref qMtold, .ref qMlive, .ref qMany, .ref qMall])), (qMtext, .inl (cT 0, 300, .inl e_text)), (qMread, .inl (cT 0, 300, .inl e_read)), (qMbegins, .inl (cT 0, 21, .inl e_begins)), (qMtried, .inl (cT 0, 21, .inl e_tried)), (qMpartCode, .inl (cT 0, 12, .inl e_partCode)), (qMpartLand, .inl (cT 0, 12, .inl e_partLand)), (qMpartCents, .inl (cT 1, 12, .inr (.inl e_partCents))), (qMjoined, .inl (cT 3, 100, .inl e_joined)), (qMproofKind, .inl (cT 0, 20, .inl e_proofKind)), (qMproofFrom, .inl (cT 0, 20, .inl e_proofFrom)), (qMproofTo, .inl (cT 0, 20, .inl e_proofTo)), (qMtold, .inl (cT 0, 300, .inl e_told)), (qMlive, .inl (cT 3, 9, .inl e_live)), (qMany, .inl (cT 3, 9, .inl e_any)), (qMall, .inl (cT 3, 9, .inl e_all))] 0 0 := by
  intro sz
  refine Met.ofW (cc := b_Md_count) (maxL := 4) (ret := (some .int)) (by decide) rfl ?_
  intro p e s m args below meth c s₁ B hml hv
  obtain ⟨rfl, hsz, hP, hE, hD0⟩ := hv
  have hx := B.exec
  have hb := B.bytes
  have hr := B.returns
  have hts : ∀ w ∈ TB, w.before _ s = true := fun w h => atoms_spec (ws := WS y_Md_count b_Md_count 4 (some .int)) B.pre w (List.mem_cons_of_mem _ h)
  have hown : s.vm.findClass R_Md = some m.cls := findClass_of_methodNamed B.named
  have hlocks := B.notSynchronized
  have hK := hE.1
  have hN := hE.2
  subst hsz
  have hD := hD0.self (sz := s.heap.size)
  generalize hAe : va_A [(qM, .inr (6, [.int e_thrown, .ref qMtext, .int e_signs, .ref qMread, .ref qMbegins, .int e_rows, .ref qMtried, .int e_parts, .ref qMpartCode, .ref qMpartLand, .ref qMpartCents, .int e_done, .int e_barred, .ref qMjoined, .int e_pairs, .int (bI e_full), .int e_up, .int e_down, .int e_proofs, .ref qMproofKind, .ref qMproofFrom, .ref qMproofTo, .int e_asked, .ref qMtold, .ref qMlive, .ref qMany, .ref qMall])), (qMtext, .inl (cT 0, 300, .inl e_text)), (qMread, .inl (cT 0, 300, .inl e_read)), (qMbegins, .inl (cT 0, 21, .inl e_begins)), (qMtried, .inl (cT 0, 21, .inl e_tried)), (qMpartCode, .inl (cT 0, 12, .inl e_partCode)), (qMpartLand, .inl (cT 0, 12, .inl e_partLand)), (qMpartCents, .inl (cT 1, 12, .inr (.inl e_partCents))), (qMjoined, .inl (cT 3, 100, .inl e_joined)), (qMproofKind, .inl (cT 0, 20, .inl e_proofKind)), (qMproofFrom, .inl (cT 0, 20, .inl e_proofFrom)), (qMproofTo, .inl (cT 0, 20, .inl e_proofTo)), (qMtold, .inl (cT 0, 300, .inl e_told)), (qMlive, .inl (cT 3, 9, .inl e_live)), (qMany, .inl (cT 3, 9, .inl e_any)), (qMall, .inl (cT 3, 9, .inl e_all))] s.heap.size = A at hD ⊢
  have hA : ∀ q : Nat, s.heap.size ≤ q → A q := fun q h => by rw [← hAe]; exact Or.inr h
  have hS : va_S A s.heap s.heap [] := va_S.rf
  have hl := lv_entry ([.ref qM, .int p1]) (n := 4) (Nat.le_of_ble_eq_true rfl)
  rw [lg_entry_eq]
  generalize (lg_sl ([.ref qM, .int p1]) ++ List.replicate (4 - (lg_sl ([.ref qM, .int p1])).length) Slot.unset).toArray = ls at hl ⊢
  have hl : lv_has ls 4 [(0, .ref qM), (1, .int p1)] := hl
  have S : CallFix p m c b_Md_count 4 s _ TB R_Md := ⟨hx, hb, hml, hown, hts⟩
  unfold m_Md_count at hM
  refine lv_aload_n hx hb d_Md_count_0 rfl (lv_at hl 0 rfl) ?_
  refine lv_iconst (v := 0) hx hb d_Md_count_1 (by decide) ?_
  refine va_put (D := D) (ci := 6) (v := .int 0) (ty := .int) (C := R_Md) (T := F_Md) (N := 27) hx hb hts i_Md t_Md t_Md_ok n_Md hown hK hP hD hS 0 rfl rfl 0 (by decide) (hts _ iw_02e0a66b) (fun _ h9 => h9) rfl (by decide +kernel) rfl rfl (Nat.le_of_ble_eq_true rfl) d_Md_count_2 (fun H locs hP hD hS => ?_)
  have hP : va_P D classes [(qM, .inr (6, [.int 0, .ref qMtext, .int e_signs, .ref qMread, .ref qMbegins, .int e_rows, .ref qMtried, .int e_parts, .ref qMpartCode, .ref qMpartLand, .ref qMpartCents, .int e_done, .int e_barred, .ref qMjoined, .int e_pairs, .int (bI e_full), .int e_up, .int e_down, .int e_proofs, .ref qMproofKind, .ref qMproofFrom, .ref qMproofTo, .int e_asked, .ref qMtold, .ref qMlive, .ref qMany, .ref qMall])), (qMtext, .inl (cT 0, 300, .inl e_text)), (qMread, .inl (cT 0, 300, .inl e_read)), (qMbegins, .inl (cT 0, 21, .inl e_begins)), (qMtried, .inl (cT 0, 21, .inl e_tried)), (qMpartCode, .inl (cT 0, 12, .inl e_partCode)), (qMpartLand, .inl (cT 0, 12, .inl e_partLand)), (qMpartCents, .inl (cT 1, 12, .inr (.inl e_partCents))), (qMjoined, .inl (cT 3, 100, .inl e_joined)), (qMproofKind, .inl (cT 0, 20, .inl e_proofKind)), (qMproofFrom, .inl (cT 0, 20, .inl e_proofFrom)), (qMproofTo, .inl (cT 0, 20, .inl e_proofTo)), (qMtold, .inl (cT 0, 300, .inl e_told)), (qMlive, .inl (cT 3, 9, .inl e_live)), (qMany, .inl (cT 3, 9, .inl e_any)), (qMall, .inl (cT 3, 9, .inl e_all))] H := hP
  have hD : va_D A [(qM, .inr (6, [.int 0, .ref qMtext, .int e_signs, .ref qMread, .ref qMbegins, .int e_rows, .ref qMtried, .int e_parts, .ref qMpartCode, .ref qMpartLand, .ref qMpartCents, .int e_done, .int e_barred, .ref qMjoined, .int e_pairs, .int (bI e_full), .int e_up, .int e_down, .int e_proofs, .ref qMproofKind, .ref qMproofFrom, .ref qMproofTo, .int e_asked, .ref qMtold, .ref qMlive, .ref qMany, .ref qMall])), (qMtext, .inl (cT 0, 300, .inl e_text)), (qMread, .inl (cT 0, 300, .inl e_read)), (qMbegins, .inl (cT 0, 21, .inl e_begins)), (qMtried, .inl (cT 0, 21, .inl e_tried)), (qMpartCode, .inl (cT 0, 12, .inl e_partCode)), (qMpartLand, .inl (cT 0, 12, .inl e_partLand)), (qMpartCents, .inl (cT 1, 12, .inr (.inl e_partCents))), (qMjoined, .inl (cT 3, 100, .inl e_joined)), (qMproofKind, .inl (cT 0, 20, .inl e_proofKind)), (qMproofFrom, .inl (cT 0, 20, .inl e_proofFrom)), (qMproofTo, .inl (cT 0, 20, .inl e_proofTo)), (qMtold, .inl (cT 0, 300, .inl e_told)), (qMlive, .inl (cT 3, 9, .inl e_live)), (qMany, .inl (cT 3, 9, .inl e_any)), (qMall, .inl (cT 3, 9, .inl e_all))] := hD
  refine lv_iconst (v := 0) hx hb d_Md_count_5 (by decide) ?_
  refine lv_istore_n (lv' := [(2, .int 0), (0, .ref qM), (1, .int p1)]) hx hb d_Md_count_6 rfl hl (by decide) rfl (fun ls hl => ?_)
  refine lv_iconst (v := 0) hx hb d_Md_count_7 (by decide) ?_
  refine lv_istore_n (lv' := [(3, .int 0), (2, .int 0), (0, .ref qM), (1, .int p1)]) hx hb d_Md_count_8 rfl hl (by decide) rfl (fun ls hl => ?_)
  exact w_Md_count_9 S hr hlocks hE hA 2000 0 0 0 hM _ _ _ hP hD hS (lv_sub hl [2, 3, 1, 0] rfl)
