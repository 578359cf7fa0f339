set_option maxHeartbeats 8000000 in
set_option maxRecDepth 100000 in
theorem law_ind {L : Nat} (hL0 : L ≤ 2560) (xs : Nat → Int32) : ∀ (n i : Nat) {done : Int32} {brd : Int32} {tup : Int32} {tdn : Int32} {askd : Int32} {answ : Nat → Int32} {tlen : Int32} {tpl : Int32} {tsg : Nat → Int32} {rlen : Int32} {rsz : Int32} {rsg : Nat → Int32} {psz : Int32} {pcd : Nat → Int32} {pld : Nat → Int32} {pct : Nat → Int64} {lpr : Int32} {lful : Bool} {ljn : Nat → Int32} {fsz : Int32} {fkd : Nat → Int32} {ffr : Nat → Int32} {fto : Nat → Int32} {e_thrown : Int32} {e_signs : Int32} {e_rows : Int32} {e_parts : Int32} {e_done : Int32} {e_barred : Int32} {e_pairs : Int32} {e_full : Bool} {e_up : Int32} {e_down : Int32} {e_proofs : Int32} {e_asked : Int32} {e_text : Nat → Int32} {e_read : Nat → Int32} {e_begins : Nat → Int32} {e_tried : Nat → Int32} {e_partCode : Nat → Int32} {e_partLand : Nat → Int32} {e_partCents : Nat → Int64} {e_joined : Nat → Int32} {e_proofKind : Nat → Int32} {e_proofFrom : Nat → Int32} {e_proofTo : Nat → Int32} {e_told : Nat → Int32} {e_live : Nat → Int32} {e_any : Nat → Int32} {e_all : Nat → Int32} {uout : Nat → Int64}, L + 5 ≤ i + 5 * n → i ≤ L → done = e_done → brd = e_barred → JO tup tdn e_up e_down → JW askd answ e_asked e_told → JT tlen tsg e_signs e_text → JR rlen rsz rsg e_rows e_read e_begins → JP psz pcd pld pct e_parts e_partCode e_partLand e_partCents → JL lpr lful ljn e_pairs e_full e_joined → JF fsz fkd ffr fto e_proofs e_proofKind e_proofFrom e_proofTo → k_law_23 L xs n (nI i) done brd tup tdn askd answ tlen tpl tsg rlen rsz rsg psz pcd pld pct lpr lful ljn fsz fkd ffr fto e_thrown e_signs e_rows e_parts e_done e_barred e_pairs e_full e_up e_down e_proofs e_asked e_text e_read e_begins e_tried e_partCode e_partLand e_partCents e_joined e_proofKind e_proofFrom e_proofTo e_told e_live e_any e_all uout = some true := by
  intro n
  induction n with
  | zero => intro i done brd tup tdn askd answ tlen tpl tsg rlen rsz rsg psz pcd pld pct lpr lful ljn fsz fkd ffr fto e_thrown e_signs e_rows e_parts e_done e_barred e_pairs e_full e_up e_down e_proofs e_asked e_text e_read e_begins e_tried e_partCode e_partLand e_partCents e_joined e_proofKind e_proofFrom e_proofTo e_told e_live e_any e_all uout h1 h2; omega
  | succ n ih =>
    intro i done brd tup tdn askd answ tlen tpl tsg rlen rsz rsg psz pcd pld pct lpr lful ljn fsz fkd ffr fto e_thrown e_signs e_rows e_parts e_done e_barred e_pairs e_full e_up e_down e_proofs e_asked e_text e_read e_begins e_tried e_partCode e_partLand e_partCents e_joined e_proofKind e_proofFrom e_proofTo e_told e_live e_any e_all uout hn hi hd hb hO hW hT hR hP hL hF
    subst hd; subst hb
    rw [k_law_23_s]
    by_cases hx : ((Int32.ofNat L) - 5) < nI i
    · rw [if_pos hx]
    · rw [if_neg hx]
      have hiL : i + 5 ≤ L := by
        rw [Int32.lt_iff_toInt_lt, show (Int32.ofNat L - 5).toInt = (L : Int) - 5 from pk_sub_toInt (a := L) (b := 5) (by omega) (by omega), nI_toInt (by omega)] at hx
        omega
      have a1 : nI i + 1 = nI (i + 1) := nI_1 i
      have a2 : nI i + 2 = nI (i + 2) := by rw [li2, nI_add]
      have a3 : nI i + 3 = nI (i + 3) := by rw [li3, nI_add]
      have a4 : nI i + 4 = nI (i + 4) := by rw [li4, nI_add]
      have a5 : nI i + 5 = nI (i + 5) := by rw [li5, nI_add]
      have c0 : (nI i).toNatClampNeg = i := clI (by omega)
      have c1 : (nI (i + 1)).toNatClampNeg = i + 1 := clI (by omega)
      have c2 : (nI (i + 2)).toNatClampNeg = i + 2 := clI (by omega)
      have c3 : (nI (i + 3)).toNatClampNeg = i + 3 := clI (by omega)
      have c4 : (nI (i + 4)).toNatClampNeg = i + 4 := clI (by omega)
      have x0 : ∀ (k : Option Bool), ixg (nI i) L k = k := fun k => ix_ok (by omega) (by omega)
      have x1 : ∀ (k : Option Bool), ixg (nI (i + 1)) L k = k := fun k => ix_ok (by omega) (by omega)
      have x2 : ∀ (k : Option Bool), ixg (nI (i + 2)) L k = k := fun k => ix_ok (by omega) (by omega)
      have x3 : ∀ (k : Option Bool), ixg (nI (i + 3)) L k = k := fun k => ix_ok (by omega) (by omega)
      have x4 : ∀ (k : Option Bool), ixg (nI (i + 4)) L k = k := fun k => ix_ok (by omega) (by omega)
      rw [x0, c0]
      by_cases o0 : (xs i &&& 15) = 0
      · rw [if_pos o0]
        simp only [a1, a2, a3, a4, a5, c1, c2, c3, c4, x1, x2, x3, x4]
        obtain ⟨b, tl', ts', th', sg', tx', h1, h2, h3⟩ := s_sign (p := xs (i + 1)) (th := e_thrown) hT
        rw [h1, e_bd3, h2, e_bd4, if_pos rfl]
        exact ih (i + 5) (by omega) (by omega) rfl rfl hO hW h3 hR hP hL hF
      rw [if_neg o0]
      by_cases o1 : (xs i &&& 15) = 1
      · rw [if_pos o1]
        simp only [a1, a2, a3, a4, a5, c1, c2, c3, c4, x1, x2, x3, x4]
        obtain ⟨r, tl', tp', rl', rz', rg', th', sg', rw', rd', bg', tr', h1, h2, h3, h4⟩ := s_read (tpl := tpl) (th := e_thrown) (tried := e_tried) hT hR
        rw [h1, e_bd6, h2, e_bd7, if_pos rfl]
        exact ih (i + 5) (by omega) (by omega) rfl rfl hO hW h3 h4 hP hL hF
      rw [if_neg o1]
      by_cases o2 : (xs i &&& 15) = 2
      · rw [if_pos o2]
        simp only [a1, a2, a3, a4, a5, c1, c2, c3, c4, x1, x2, x3, x4]
        rcases l_part (p := xs (i + 1)) (q := xs (i + 2)) (r := (((xs (i + 3)).toInt64) <<< (((32 : Int32)).toInt64 &&& 63)) ||| (((xs (i + 4)).toInt64) &&& 4294967295)) (th := e_thrown) (uout := uout) hP with ⟨kk, z, h0, h1, h2⟩ | ⟨z, b1, b2, b3, b4, b5, b6, b7, b8, h1, h2, h3⟩
        · rw [h1, e_bd6, h2, e_bd6]
          unfold m_Md_thrown
          rw [e_bd1, if_pos rfl, if_neg h0]
          exact ih (i + 5) (by omega) (by omega) rfl rfl hO hW hT hR hP hL hF
        · rw [h1, e_bd6, h2, e_bd6]
          unfold m_Md_thrown
          rw [e_bd1, if_pos rfl, if_pos rfl, ix01, h00, pk_uLs, if_pos (cmp_self _)]
          exact ih (i + 5) (by omega) (by omega) rfl rfl hO hW hT hR h3 hL hF
      rw [if_neg o2]
      by_cases o3 : (xs i &&& 15) = 3
      · rw [if_pos o3]
        simp only [a1, a2, a3, a4, a5, c1, c2, c3, c4, x1, x2, x3, x4]
        obtain ⟨m, hm, rfl, rfl, hpc⟩ := hP
        unfold m_Or_clear m_Parts_forget m_Md_clear
        rw [e_bd2, e_bd3, e_bd4, if_pos rfl]
        exact ih (i + 5) (by omega) (by omega) rfl rfl hO hW hT hR ⟨0, by omega, rfl, rfl, fun j hj => absurd hj (by omega)⟩ hL hF
      rw [if_neg o3]
      by_cases o4 : (xs i &&& 15) = 4
      · rw [if_pos o4]
        simp only [a1, a2, a3, a4, a5, c1, c2, c3, c4, x1, x2, x3, x4]
        obtain ⟨b, d', th', h1, h2⟩ := s_process (p := xs (i + 1)) (d := done) (th := e_thrown)
        rw [h1, e_bd2, h2, e_bd3, if_pos rfl]
        exact ih (i + 5) (by omega) (by omega) rfl rfl hO hW hT hR hP hL hF
      rw [if_neg o4]
      by_cases o5 : (xs i &&& 15) = 5
      · rw [if_pos o5]
        simp only [a1, a2, a3, a4, a5, c1, c2, c3, c4, x1, x2, x3, x4]
        by_cases hz : xs (i + 2) = 0
        · simp only [if_pos hz]
          obtain ⟨b, d', th', h1, h2⟩ := s_bar (p := xs (i + 1)) (d := brd) (th := e_thrown) (f := false)
          rw [h1, e_bd2, h2, e_bd3, if_pos rfl]
          exact ih (i + 5) (by omega) (by omega) rfl rfl hO hW hT hR hP hL hF
        · simp only [if_neg hz]
          obtain ⟨b, d', th', h1, h2⟩ := s_bar (p := xs (i + 1)) (d := brd) (th := e_thrown) (f := true)
          rw [h1, e_bd2, h2, e_bd3, if_pos rfl]
          exact ih (i + 5) (by omega) (by omega) rfl rfl hO hW hT hR hP hL hF
      rw [if_neg o5]
      by_cases o6 : (xs i &&& 15) = 6
      · rw [if_pos o6]
        simp only [a1, a2, a3, a4, a5, c1, c2, c3, c4, x1, x2, x3, x4]
        rcases l_join (p := xs (i + 1)) (q := xs (i + 2)) (th := e_thrown) (uout := uout) hL with ⟨kk, z, h0, h1, h2⟩ | ⟨z, b1, b2, b3, b4, h1, h2, h3⟩
        · rw [h1, e_bd4, h2, e_bd4]
          unfold m_Md_thrown
          rw [e_bd1, if_pos rfl, if_neg h0]
          exact ih (i + 5) (by omega) (by omega) rfl rfl hO hW hT hR hP hL hF
        · rw [h1, e_bd4, h2, e_bd4]
          unfold m_Md_thrown
          rw [e_bd1, if_pos rfl, if_pos rfl, ix01, h00, pk_uLs, if_pos (cmp_self _)]
          exact ih (i + 5) (by omega) (by omega) rfl rfl hO hW hT hR hP h3 hF
      rw [if_neg o6]
      by_cases o7 : (xs i &&& 15) = 7
      · rw [if_pos o7]
        simp only [a1, a2, a3, a4, a5, c1, c2, c3, c4, x1, x2, x3, x4]
        obtain ⟨hl1, hl2, hl3⟩ := hL
        subst hl1; subst hl2
        by_cases hz : xs (i + 1) = 0
        · simp only [if_pos hz]
          obtain ⟨b, d', th', h1, h2⟩ := s_full (p := false) (f := lful) (th := e_thrown)
          rw [h1, e_bd2, h2, e_bd3, if_pos rfl]
          exact ih (i + 5) (by omega) (by omega) rfl rfl hO hW hT hR hP ⟨rfl, rfl, hl3⟩ hF
        · simp only [if_neg hz]
          obtain ⟨b, d', th', h1, h2⟩ := s_full (p := true) (f := lful) (th := e_thrown)
          rw [h1, e_bd2, h2, e_bd3, if_pos rfl]
          exact ih (i + 5) (by omega) (by omega) rfl rfl hO hW hT hR hP ⟨rfl, rfl, hl3⟩ hF
      rw [if_neg o7]
      by_cases o8 : (xs i &&& 15) = 8
      · rw [if_pos o8]
        simp only [a1, a2, a3, a4, a5, c1, c2, c3, c4, x1, x2, x3, x4]
        obtain ⟨b, b1, b2, b3, b4, b5, h1, h2, h3⟩ := s_tol (p := xs (i + 1)) (q := xs (i + 2)) (th := e_thrown) hO
        rw [h1, e_bd3, h2, e_bd4, if_pos rfl]
        exact ih (i + 5) (by omega) (by omega) rfl rfl h3 hW hT hR hP hL hF
      rw [if_neg o8]
      by_cases o9 : (xs i &&& 15) = 9
      · rw [if_pos o9]
        simp only [a1, a2, a3, a4, a5, c1, c2, c3, c4, x1, x2, x3, x4]
        rcases l_verdict (p := xs (i + 1)) (q := (((xs (i + 2)).toInt64) <<< (((32 : Int32)).toInt64 &&& 63)) ||| (((xs (i + 3)).toInt64) &&& 4294967295)) (done := done) (brd := brd) (th := e_thrown) (live := e_live) (any := e_any) (all := e_all) (uout := uout) hR hP hL hO hW with ⟨kk, z, h0, h1, h2⟩ | ⟨z, b1, b2, b3, b4, b5, b6, b7, h1, h2, h3⟩
        · rw [h1, e_bd4, h2, e_bd7]
          unfold m_Md_thrown
          rw [e_bd1, if_pos rfl, if_neg h0]
          exact ih (i + 5) (by omega) (by omega) rfl rfl hO hW hT hR hP hL hF
        · rw [h1, e_bd4, h2, e_bd7]
          unfold m_Md_thrown
          rw [e_bd1, if_pos rfl, if_pos rfl, ix01, h00, pk_uLs, if_pos (cmp_self _)]
          exact ih (i + 5) (by omega) (by omega) rfl rfl hO h3 hT hR hP hL hF
      rw [if_neg o9]
      by_cases o10 : (xs i &&& 15) = 10
      · rw [if_pos o10]
        simp only [a1, a2, a3, a4, a5, c1, c2, c3, c4, x1, x2, x3, x4]
        obtain ⟨r, th', h1, h2⟩ := s_why (p := xs (i + 1)) (th := e_thrown) hW
        rw [h1, e_bd1, h2, e_bd2, if_pos rfl]
        exact ih (i + 5) (by omega) (by omega) rfl rfl hO hW hT hR hP hL hF
      rw [if_neg o10]
      by_cases o11 : (xs i &&& 15) = 11
      · rw [if_pos o11]
        simp only [a1, a2, a3, a4, a5, c1, c2, c3, c4, x1, x2, x3, x4]
        rcases l_share (p := (((xs (i + 1)).toInt64) <<< (((32 : Int32)).toInt64 &&& 63)) ||| (((xs (i + 2)).toInt64) &&& 4294967295)) (q := xs (i + 3)) (th := e_thrown) (uout := uout) hP hL with ⟨kk, z, h0, h1, h2⟩ | ⟨z, h1, h2⟩
        · rw [h1, e_bd2, h2, e_bd2]
          unfold m_Md_thrown
          rw [e_bd1, if_pos rfl, if_neg h0]
          exact ih (i + 5) (by omega) (by omega) rfl rfl hO hW hT hR hP hL hF
        · rw [h1, e_bd2, h2, e_bd2]
          unfold m_Md_thrown
          rw [e_bd1, if_pos rfl, if_pos rfl, ix01, h00, pk_uLs, if_pos (cmp_self _)]
          exact ih (i + 5) (by omega) (by omega) rfl rfl hO hW hT hR hP hL hF
      rw [if_neg o11]
      by_cases o12 : (xs i &&& 15) = 12
      · rw [if_pos o12]
        simp only [a1, a2, a3, a4, a5, c1, c2, c3, c4, x1, x2, x3, x4]
        rcases l_proof (p := xs (i + 1)) (q := xs (i + 2)) (r := xs (i + 3)) (th := e_thrown) (uout := uout) hF with ⟨kk, z, h0, h1, h2⟩ | ⟨z, b1, b2, b3, b4, b5, b6, b7, b8, h1, h2, h3⟩
        · rw [h1, e_bd6, h2, e_bd6]
          unfold m_Md_thrown
          rw [e_bd1, if_pos rfl, if_neg h0]
          exact ih (i + 5) (by omega) (by omega) rfl rfl hO hW hT hR hP hL hF
        · rw [h1, e_bd6, h2, e_bd6]
          unfold m_Md_thrown
          rw [e_bd1, if_pos rfl, if_pos rfl, ix01, h00, pk_uLs, if_pos (cmp_self _)]
          exact ih (i + 5) (by omega) (by omega) rfl rfl hO hW hT hR hP hL h3
      rw [if_neg o12]
      by_cases o13 : (xs i &&& 15) = 13
      · rw [if_pos o13]
        simp only [a1, a2, a3, a4, a5, c1, c2, c3, c4, x1, x2, x3, x4]
        rcases l_good (p := xs (i + 1)) (q := (((xs (i + 2)).toInt64) <<< (((32 : Int32)).toInt64 &&& 63)) ||| (((xs (i + 3)).toInt64) &&& 4294967295)) (r := xs (i + 4)) (th := e_thrown) (uout := uout) hF with ⟨kk, z, h0, h1, h2⟩ | ⟨z, h1, h2⟩
        · rw [h1, e_bd2, h2, e_bd2]
          unfold m_Md_thrown
          rw [e_bd1, if_pos rfl, if_neg h0]
          exact ih (i + 5) (by omega) (by omega) rfl rfl hO hW hT hR hP hL hF
        · rw [h1, e_bd2, h2, e_bd2]
          unfold m_Md_thrown
          rw [e_bd1, if_pos rfl, if_pos rfl, ix01, h00]
          cases z with
          | false =>
            rw [if_pos (show bI false = 0 from rfl), pk_uLs, if_pos (show lg_cmp (if bI false = 0 then (0 : Int64) else 1) 0 = 0 by rw [if_pos (show bI false = 0 from rfl)]; exact cmp_self 0)]
            exact ih (i + 5) (by omega) (by omega) rfl rfl hO hW hT hR hP hL hF
          | true =>
            rw [if_neg (show ¬ bI true = 0 by decide), pk_uLs, if_pos (show lg_cmp (if bI true = 0 then (0 : Int64) else 1) 1 = 0 by rw [if_neg (show ¬ bI true = 0 by decide)]; exact cmp_self 1)]
            exact ih (i + 5) (by omega) (by omega) rfl rfl hO hW hT hR hP hL hF
      rw [if_neg o13]
      by_cases o14 : (xs i &&& 15) = 14
      · rw [if_pos o14]
        simp only [a1, a2, a3, a4, a5, c1, c2, c3, c4, x1, x2, x3, x4]
        rcases l_own (p := xs (i + 1)) (th := e_thrown) (uout := uout) hL with ⟨kk, z, h0, h1, h2⟩ | ⟨z, h1, h2⟩
        · rw [h1, e_bd2, h2, e_bd2]
          unfold m_Md_thrown
          rw [e_bd1, if_pos rfl, if_neg h0]
          exact ih (i + 5) (by omega) (by omega) rfl rfl hO hW hT hR hP hL hF
        · rw [h1, e_bd2, h2, e_bd2]
          unfold m_Md_thrown
          rw [e_bd1, if_pos rfl, if_pos rfl, ix01, h00]
          cases z with
          | false =>
            rw [if_pos (show bI false = 0 from rfl), pk_uLs, if_pos (show lg_cmp (if bI false = 0 then (0 : Int64) else 1) 0 = 0 by rw [if_pos (show bI false = 0 from rfl)]; exact cmp_self 0)]
            exact ih (i + 5) (by omega) (by omega) rfl rfl hO hW hT hR hP hL hF
          | true =>
            rw [if_neg (show ¬ bI true = 0 by decide), pk_uLs, if_pos (show lg_cmp (if bI true = 0 then (0 : Int64) else 1) 1 = 0 by rw [if_neg (show ¬ bI true = 0 by decide)]; exact cmp_self 1)]
            exact ih (i + 5) (by omega) (by omega) rfl rfl hO hW hT hR hP hL hF
      rw [if_neg o14]
      by_cases o15 : (xs i &&& 15) = 15
      · rw [if_pos o15]
        simp only [a1, a2, a3, a4, a5, c1, c2, c3, c4, x1, x2, x3, x4]
        obtain ⟨r, th', h1, h2⟩ := s_count (p := xs (i + 1)) (done := done) (edone := done) (rsz := rsz) (rows := e_rows) (th := e_thrown) rfl hR.1 hT hP hL hF hW
        rw [h1, e_bd1, h2, e_bd2, if_pos rfl]
        exact ih (i + 5) (by omega) (by omega) rfl rfl hO hW hT hR hP hL hF
      rw [if_neg o15]
      rw [a5]
      exact ih (i + 5) (by omega) (by omega) rfl rfl hO hW hT hR hP hL hF
