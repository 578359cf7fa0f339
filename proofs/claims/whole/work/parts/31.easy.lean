theorem gT {α : Type} {P : Prop} [Decidable P] {A B : Option α} (h : P) : (if bI (decide P) = 0 then A else B) = B := by rw [decide_eq_true h]; exact if_neg (by decide)
theorem gF {α : Type} {P : Prop} [Decidable P] {A B : Option α} (h : ¬ P) : (if bI (decide P) = 0 then A else B) = A := by rw [decide_eq_false h]; exact if_pos rfl
theorem gt {α : Type} {A B : Option α} : (if bI true = 0 then A else B) = B := if_neg (by decide)
theorem gf {α : Type} {A B : Option α} : (if bI false = 0 then A else B) = A := if_pos rfl
theorem vn_char {n : Nat} (h : n < 65536) : vp_nar .char (nI n) = nI n := by
  unfold vp_nar
  rw [(pk_charN h).1]
theorem vn_t : vp_nar .boolean 1 = 1 := by decide
theorem vn_f : vp_nar .boolean 0 = 0 := by decide
theorem vn_b (b : Bool) : vp_nar .boolean (bI b) = bI b := by cases b <;> decide
theorem clI {n : Nat} (h : n < 2 ^ 31) : (nI n).toNatClampNeg = n := nI_clamp h
def JT (tlen : Int32) (tsg : Nat → Int32) (signs : Int32) (text : Nat → Int32) : Prop := ∃ (a : Nat) (c : Nat → Nat), a ≤ 300 ∧ tlen = nI a ∧ signs = nI a ∧ ∀ j, j < a → tsg j = nI (c j) ∧ text j = nI (c j) ∧ 33 ≤ c j ∧ c j ≤ 126
def JP (psz : Int32) (pcd pld : Nat → Int32) (pct : Nat → Int64) (parts : Int32) (pc pl : Nat → Int32) (pv : Nat → Int64) : Prop := ∃ m : Nat, m ≤ 12 ∧ psz = nI m ∧ parts = nI m ∧ ∀ j, j < m → pc j = pcd j ∧ pl j = pld j ∧ pv j = pct j ∧ (∃ v : Nat, v ≤ 999999 ∧ pcd j = nI v) ∧ (∃ l : Nat, l < 10 ∧ pld j = nI l) ∧ (∃ w : Nat, w ≤ 1000000000 ∧ pct j = lN w)
def JL (lpr : Int32) (lful : Bool) (ljn : Nat → Int32) (pairs : Int32) (full : Bool) (joined : Nat → Int32) : Prop := lpr = pairs ∧ lful = full ∧ ∀ a b, a < 10 → b < 10 → joined (10 * a + b) = bI (bt (ljn a) b)
def JF (fsz : Int32) (fkd ffr fto : Nat → Int32) (proofs : Int32) (pk pf pt : Nat → Int32) : Prop := ∃ k : Nat, k ≤ 20 ∧ fsz = nI k ∧ proofs = nI k ∧ ∀ j, j < k → pk j = fkd j ∧ pf j = ffr j ∧ pt j = fto j
def JW (askd : Int32) (answ : Nat → Int32) (asked : Int32) (told : Nat → Int32) : Prop := ∃ q : Nat, q ≤ 149 ∧ askd = nI q ∧ asked = nI q ∧ ∀ j, j < q → told j = answ j
def JO (tup tdn up down : Int32) : Prop := up = tup ∧ down = tdn ∧ ∃ u d : Nat, u ≤ 1000 ∧ d ≤ 1000 ∧ tup = nI u ∧ tdn = nI d
theorem s_sign {p tlen signs th : Int32} {tsg text : Nat → Int32} (h : JT tlen tsg signs text) : ∃ b tlen' tsg' th' signs' text', m_Or_sign p tlen tsg = some (b, tlen', tsg') ∧ m_Md_sign p th signs text = some (b, th', signs', text') ∧ JT tlen' tsg' signs' text' := by
  obtain ⟨a, c, ha, rfl, rfl, hc⟩ := h
  unfold m_Or_sign m_Md_sign
  simp only [md_sign, e_bd1, Int32.lt_iff_toInt_lt, ti33, ti126, ti300]
  by_cases h1 : 33 ≤ p.toInt ∧ p.toInt ≤ 126
  · rw [if_neg (show ¬ p.toInt < 33 by omega), if_neg (show ¬ (126 : Int) < p.toInt by omega)]
    simp only [gT h1]
    obtain ⟨v, hv, rfl⟩ := nI_ex (x := p) (m := 126) (by omega) (by omega)
    rw [nI_toInt (show a < 2 ^ 31 by omega)]
    rw [nI_toInt (show v < 2 ^ 31 by omega)] at h1
    by_cases h2 : a = 300
    · subst h2
      refine ⟨_, _, _, _, _, _, if_neg (by decide), if_pos rfl, 300, c, ha, rfl, rfl, hc⟩
    · refine ⟨true, nI (a + 1), upd tsg a (nI v), 0, nI (a + 1), upd text a (nI v), ?_, ?_, a + 1, fun j => if j = a then v else c j, by omega, rfl, rfl, ?_⟩
      · rw [if_pos (by omega)]
        unfold m_Text_add
        rw [ix_ok (by omega) (by omega), e_bd2, pk_char, pk_tn (by omega), Nat.mod_eq_of_lt (by omega), vn_char (by omega), clI (by omega), nI_1]
      · rw [if_neg (by rw [li300, i_eq (by omega) (by omega)]; exact h2), ix_ok (by omega) (by omega), clI (by omega), nI_1]
      · intro j hj
        by_cases hja : j = a
        · subst hja; rw [pk_us, pk_us]; simp only [if_true]; exact ⟨trivial, trivial, by omega, by omega⟩
        · rw [pk_un hja, pk_un hja]; simp only [hja, if_false]; exact hc j (by omega)
  · simp only [gF h1]
    refine ⟨_, _, _, _, _, _, ?_, rfl, a, c, ha, rfl, rfl, hc⟩
    by_cases h2 : p.toInt < 33
    · rw [if_pos h2]
    · rw [if_neg h2, if_pos (by omega)]
theorem s_part {p q : Int32} {r : Int64} {psz parts th : Int32} {pcd pld pc pl : Nat → Int32} {pct pv : Nat → Int64} (h : JP psz pcd pld pct parts pc pl pv) :
    (∃ e k : Nat, m_Or_part p q r psz pcd pld pct = some (.inl e) ∧ ((e = 0 ∧ k = 1) ∨ (e = 1 ∧ k = 2)) ∧ ∃ z, m_Md_part p q r th parts pc pl pv = some (z, nI k, parts, pc, pl, pv)) ∨
    (∃ z psz' pcd' pld' pct' parts' pc' pl' pv', m_Or_part p q r psz pcd pld pct = some (.inr (z, psz', pcd', pld', pct')) ∧ m_Md_part p q r th parts pc pl pv = some (z, 0, parts', pc', pl', pv') ∧ JP psz' pcd' pld' pct' parts' pc' pl' pv') := by
  obtain ⟨m, hm, rfl, rfl, hc⟩ := h
  unfold m_Or_part m_Md_part
  simp only [md_code, md_land, md_cents, or_code, or_land, or_cents, e_bd1]
  by_cases h1 : 1 ≤ p.toInt ∧ p.toInt ≤ 999999
  · simp only [gT h1]
    by_cases h2 : 0 ≤ q.toInt ∧ q.toInt ≤ 9
    · simp only [gT h2]
      by_cases h3 : 0 ≤ r.toInt ∧ r.toInt ≤ 1000000000
      · simp only [gT h3]
        obtain ⟨v, hv, rfl⟩ := nI_ex (x := p) (m := 999999) (by omega) (by omega)
        obtain ⟨l, hl, rfl⟩ := nI_ex (x := q) (m := 9) (by omega) (by omega)
        obtain ⟨w, hw, rfl⟩ := lN_ex (x := r) (m := 1000000000) (by omega) (by omega)
        simp only [li12]
        simp (disch := omega) only [i_lt, i_eq]
        by_cases h4 : m = 12
        · subst h4
          exact Or.inl ⟨1, 2, if_neg (by omega), Or.inr ⟨rfl, rfl⟩, _, if_pos rfl⟩
        · right
          refine ⟨nI (m + 1), nI (m + 1), upd pcd m (nI v), upd pld m (nI l), vp_updL pct m (lN w), nI (m + 1), upd pc m (nI v), upd pl m (nI l), vp_updL pv m (lN w), ?_, ?_, m + 1, by omega, rfl, rfl, ?_⟩
          · rw [if_pos (by omega)]
            unfold m_Parts_add
            simp (disch := omega) only [ix_ok, clI, nI_1, e_bd5]
          · rw [if_neg h4]
            simp (disch := omega) only [ix_ok, clI, nI_1]
          · intro j hj
            by_cases hja : j = m
            · subst hja
              simp only [pk_us, pk_uLs]
              exact ⟨trivial, trivial, trivial, ⟨v, hv, rfl⟩, ⟨l, by omega, rfl⟩, ⟨w, hw, rfl⟩⟩
            · simp only [pk_un hja, pk_uLn hja]; exact hc j (by omega)
      · simp only [gF h3]; exact Or.inl ⟨0, 1, rfl, Or.inl ⟨rfl, rfl⟩, _, rfl⟩
    · simp only [gF h2]; exact Or.inl ⟨0, 1, rfl, Or.inl ⟨rfl, rfl⟩, _, rfl⟩
  · simp only [gF h1]; exact Or.inl ⟨0, 1, rfl, Or.inl ⟨rfl, rfl⟩, _, rfl⟩
theorem s_process {p d th : Int32} : ∃ b d' th', m_Or_process p d = some (b, d') ∧ m_Md_process p th d = some (b, th', d') := by
  unfold m_Or_process m_Md_process
  simp only [md_proc, or_proc, e_bd1]
  by_cases h1 : 0 ≤ p.toInt ∧ p.toInt ≤ 15
  · simp only [gT h1]
    obtain ⟨v, hv, rfl⟩ := nI_ex (x := p) (m := 15) (by omega) (by omega)
    rw [hb (by omega), e_bd1]
    cases hc : bt d v with
    | true => exact ⟨_, _, _, gt, if_pos ((hb_iff (by omega) _).mpr hc)⟩
    | false => exact ⟨_, _, _, gf, if_neg (fun h => by rw [(hb_iff (by omega) _).mp h] at hc; cases hc)⟩
  · simp only [gF h1]; exact ⟨_, _, _, rfl, rfl⟩
theorem s_bar {p d th : Int32} {f : Bool} : ∃ b d' th', m_Or_bar p f d = some (b, d') ∧ m_Md_bar p f th d = some (b, th', d') := by
  unfold m_Or_bar m_Md_bar
  simp only [md_proc, or_proc, e_bd1]
  by_cases h1 : 0 ≤ p.toInt ∧ p.toInt ≤ 15
  · simp only [gT h1]
    obtain ⟨v, hv, rfl⟩ := nI_ex (x := p) (m := 15) (by omega) (by omega)
    rw [hb (by omega), e_bd1]
    unfold k_Md_bar_34
    cases hc : bt d v with
    | true => rw [if_pos ((hb_iff (by omega) _).mpr hc)]; cases f <;> exact ⟨_, _, _, rfl, rfl⟩
    | false =>
      have hn : ¬ ((d >>> (nI v &&& 31)) &&& 1) = 1 := fun h => by rw [(hb_iff (by omega) _).mp h] at hc; cases hc
      rw [if_neg hn]; cases f <;> exact ⟨_, _, _, rfl, rfl⟩
  · simp only [gF h1]; exact ⟨_, _, _, rfl, rfl⟩
theorem s_full {p f : Bool} {th : Int32} : ∃ b f' th', m_Or_full p f = some (b, f') ∧ m_Md_full p th f = some (b, th', f') := by
  cases p <;> cases f <;> exact ⟨_, _, _, rfl, rfl⟩
theorem s_tol {p q tup tdn up down th : Int32} (h : JO tup tdn up down) : ∃ b tup' tdn' th' up' down', m_Or_tolerance p q tup tdn = some (b, tup', tdn') ∧ m_Md_tolerance p q th up down = some (b, th', up', down') ∧ JO tup' tdn' up' down' := by
  obtain ⟨rfl, rfl, hj⟩ := h
  unfold m_Or_tolerance m_Md_tolerance
  simp only [md_thou, md_upto, e_bd1, Int32.lt_iff_toInt_lt, Int32.le_iff_toInt_le, ti0, ti1, ti1000]
  by_cases h1 : 1 ≤ q.toInt ∧ q.toInt ≤ 1000
  · simp only [gT h1]
    rw [if_neg (show ¬ q.toInt < 1 by omega), if_neg (show ¬ (1000 : Int) < q.toInt by omega)]
    by_cases h2 : 0 ≤ p.toInt ∧ p.toInt ≤ q.toInt
    · simp only [gT h2]
      rw [if_neg (show ¬ p.toInt < 0 by omega), if_pos h2.2]
      obtain ⟨u, hu, hpu⟩ := nI_ex (x := p) (m := 1000) (by omega) (by omega)
      obtain ⟨d, hd, hqd⟩ := nI_ex (x := q) (m := 1000) (by omega) (by omega)
      exact ⟨_, _, _, _, _, _, rfl, rfl, rfl, rfl, u, d, hu, hd, hpu, hqd⟩
    · simp only [gF h2]
      refine ⟨_, _, _, _, _, _, ?_, rfl, rfl, rfl, hj⟩
      by_cases h3 : p.toInt < 0
      · rw [if_pos h3]
      · rw [if_neg h3, if_neg (by omega)]
  · simp only [gF h1]
    refine ⟨_, _, _, _, _, _, ?_, rfl, rfl, rfl, hj⟩
    by_cases h3 : q.toInt < 1
    · rw [if_pos h3]
    · rw [if_neg h3, if_pos (by omega)]
theorem s_why {p askd asked th : Int32} {answ told : Nat → Int32} (h : JW askd answ asked told) : ∃ r th', m_Or_why p askd answ = some r ∧ m_Md_why p asked told th = some (r, th') := by
  obtain ⟨q, hq, rfl, rfl, hc⟩ := h
  unfold m_Or_why m_Md_why
  by_cases h1 : p < 0
  · rw [if_pos h1, if_pos h1]; exact ⟨_, _, rfl, rfl⟩
  · rw [if_neg h1, if_neg h1]
    obtain ⟨j, hj, rfl⟩ := nI_of h1
    simp (disch := omega) only [i_le]
    by_cases h2 : q ≤ j
    · rw [if_pos h2, if_pos h2]; exact ⟨_, _, rfl, rfl⟩
    · rw [if_neg h2, if_neg h2, ix_ok (by omega) (by omega), ix_ok (by omega) (by omega), clI (by omega), hc j (by omega)]; exact ⟨_, _, rfl, rfl⟩
theorem s_proof {p q r fsz proofs th : Int32} {fkd ffr fto pk pf pt : Nat → Int32} (h : JF fsz fkd ffr fto proofs pk pf pt) :
    (∃ e k : Nat, m_Or_proof p q r fsz fkd ffr fto = some (.inl e) ∧ ((e = 0 ∧ k = 1) ∨ (e = 1 ∧ k = 2)) ∧ ∃ z, m_Md_proof p q r th proofs pk pf pt = some (z, nI k, proofs, pk, pf, pt)) ∨
    (∃ z fsz' fkd' ffr' fto' proofs' pk' pf' pt', m_Or_proof p q r fsz fkd ffr fto = some (.inr (z, fsz', fkd', ffr', fto')) ∧ m_Md_proof p q r th proofs pk pf pt = some (z, 0, proofs', pk', pf', pt') ∧ JF fsz' fkd' ffr' fto' proofs' pk' pf' pt') := by
  obtain ⟨m, hm, rfl, rfl, hc⟩ := h
  unfold m_Or_proof m_Md_proof
  simp only [md_bit, md_day, or_day, e_bd1, Int32.lt_iff_toInt_lt (x := p), Int32.lt_iff_toInt_lt (y := p), ti0, ti1]
  by_cases h1 : 0 ≤ p.toInt ∧ p.toInt ≤ 1
  · simp only [gT h1]
    rw [if_neg (show ¬ p.toInt < 0 by omega), if_neg (show ¬ (1 : Int) < p.toInt by omega)]
    by_cases h2 : 0 ≤ q.toInt ∧ q.toInt ≤ 100000
    · simp only [gT h2]
      by_cases h3 : 0 ≤ r.toInt ∧ r.toInt ≤ 100000
      · simp only [gT h3]
        by_cases h5 : q ≤ r
        · rw [if_pos h5, if_pos h5]
          simp only [li20]
          simp (disch := omega) only [i_lt, i_eq]
          by_cases h4 : m = 20
          · subst h4
            exact Or.inl ⟨1, 2, if_neg (by omega), Or.inr ⟨rfl, rfl⟩, _, if_pos rfl⟩
          · right
            refine ⟨nI m, nI (m + 1), upd fkd m p, upd ffr m q, upd fto m r, nI (m + 1), upd pk m p, upd pf m q, upd pt m r, ?_, ?_, m + 1, by omega, rfl, rfl, ?_⟩
            · rw [if_pos (by omega)]
              unfold m_Proofs_add
              simp (disch := omega) only [ix_ok, clI, nI_1, e_bd5, nI_pred]
            · rw [if_neg h4]
              simp (disch := omega) only [ix_ok, clI, nI_1, nI_pred]
            · intro j hj
              by_cases hja : j = m
              · subst hja
                simp only [pk_us]
                exact ⟨trivial, trivial, trivial⟩
              · simp only [pk_un hja]; exact hc j (by omega)
        · rw [if_neg h5, if_neg h5]; exact Or.inl ⟨0, 1, rfl, Or.inl ⟨rfl, rfl⟩, _, rfl⟩
      · simp only [gF h3]; exact Or.inl ⟨0, 1, rfl, Or.inl ⟨rfl, rfl⟩, _, rfl⟩
    · simp only [gF h2]; exact Or.inl ⟨0, 1, rfl, Or.inl ⟨rfl, rfl⟩, _, rfl⟩
  · simp only [gF h1]
    refine Or.inl ⟨0, 1, ?_, Or.inl ⟨rfl, rfl⟩, _, rfl⟩
    by_cases h3 : p.toInt < 0
    · rw [if_pos h3]
    · rw [if_neg h3, if_pos (by omega)]
theorem s_good {p r fsz proofs th : Int32} {q : Int64} {fkd ffr fto pk pf pt : Nat → Int32} (h : JF fsz fkd ffr fto proofs pk pf pt) :
    (m_Or_good p q r fsz fkd ffr fto = some (.inl 0) ∧ ∃ z, m_Md_good p q r proofs pk pf pt th = some (z, 1)) ∨
    (∃ z, m_Or_good p q r fsz fkd ffr fto = some (.inr z) ∧ m_Md_good p q r proofs pk pf pt th = some (z, 0)) := by
  obtain ⟨m, hm, rfl, rfl, hc⟩ := h
  unfold m_Or_good m_Md_good k_Md_good_36 k_Md_good_37
  simp only [md_cents, md_day, or_day, or_cents, e_bd1]
  by_cases h1 : p < 0
  · rw [if_pos h1, if_pos h1]; exact Or.inl ⟨rfl, _, rfl⟩
  · rw [if_neg h1, if_neg h1]
    obtain ⟨j, hj, rfl⟩ := nI_of h1
    simp (disch := omega) only [i_le]
    by_cases h2 : m ≤ j
    · rw [if_pos h2, if_pos h2]; exact Or.inl ⟨rfl, _, rfl⟩
    · rw [if_neg h2, if_neg h2]
      by_cases h3 : 0 ≤ q.toInt ∧ q.toInt ≤ 1000000000
      · simp only [gT h3]
        by_cases h4 : 0 ≤ r.toInt ∧ r.toInt ≤ 100000
        · simp only [gT h4]
          obtain ⟨e1, e2, e3⟩ := hc j (by omega)
          unfold m_Proofs_isGood k_Proofs_isGood_18 k_Proofs_isGood_23 k_Md_good_65
          simp only [gt, gf]
          simp (disch := omega) only [ix_ok, clI, e1, e2, e3]
          right
          by_cases h5 : fkd j = 1
          · simp only [if_pos h5]
            by_cases h6 : r < ffr j
            · simp only [if_pos h6]; exact ⟨_, rfl, rfl⟩
            · simp only [if_neg h6]
              by_cases h7 : fto j < r
              · simp only [if_pos h7]; exact ⟨_, rfl, rfl⟩
              · simp only [if_neg h7]; exact ⟨_, rfl, rfl⟩
          · simp only [if_neg h5]
            by_cases h8 : 0 < lg_cmp q 1000000
            · simp only [if_pos h8]; exact ⟨_, rfl, rfl⟩
            · simp only [if_neg h8]
              by_cases h6 : r < ffr j
              · simp only [if_pos h6]; exact ⟨_, rfl, rfl⟩
              · simp only [if_neg h6]
                by_cases h7 : fto j < r
                · simp only [if_pos h7]; exact ⟨_, rfl, rfl⟩
                · simp only [if_neg h7]; exact ⟨_, rfl, rfl⟩
        · simp only [gF h4]; exact Or.inl ⟨trivial, _, rfl⟩
      · simp only [gF h3]; exact Or.inl ⟨trivial, _, rfl⟩
theorem d_rc {a b x y : Nat} (hb : b < 10) (hy : y < 10) : (10 * a + b = 10 * x + y) ↔ (a = x ∧ b = y) := by omega
theorem s_join {p q lpr pairs th : Int32} {lful full : Bool} {ljn joined : Nat → Int32} (h : JL lpr lful ljn pairs full joined) :
    (m_Or_join p q lpr ljn = some (.inl 0) ∧ ∃ z, m_Md_join p q th pairs joined = some (z, 1, pairs, joined)) ∨
    (∃ z lpr' ljn' pairs' joined', m_Or_join p q lpr ljn = some (.inr (z, lpr', ljn')) ∧ m_Md_join p q th pairs joined = some (z, 0, pairs', joined') ∧ JL lpr' lful ljn' pairs' full joined') := by
  obtain ⟨rfl, rfl, hc⟩ := h
  unfold m_Or_join m_Md_join
  simp only [md_land, or_land, e_bd1]
  by_cases h1 : 0 ≤ p.toInt ∧ p.toInt ≤ 9
  · simp only [gT h1]
    by_cases h2 : 0 ≤ q.toInt ∧ q.toInt ≤ 9
    · simp only [gT h2]
      by_cases h3 : p = q
      · simp only [if_pos h3]; exact Or.inl ⟨trivial, _, rfl⟩
      · simp only [if_neg h3]
        obtain ⟨a, ha, rfl⟩ := nI_ex (x := p) (m := 9) (by omega) (by omega)
        obtain ⟨b, hb', rfl⟩ := nI_ex (x := q) (m := 9) (by omega) (by omega)
        have hab : a ≠ b := fun e => h3 (by rw [e])
        unfold m_Lands_addPair
        rw [li10, pk_mul, pk_mul, nI_add, nI_add]
        simp (disch := omega) only [ix_ok, clI, hb, e_bd1]
        rw [hc a b (by omega) (by omega)]
        right
        cases hbt : bt (ljn a) b with
        | true =>
          simp only [gt, e_bd3, gf]
          exact ⟨_, _, _, _, _, rfl, rfl, rfl, rfl, hc⟩
        | false =>
          simp only [gf, e_bd3, gt]
          refine ⟨_, _, _, _, _, rfl, rfl, rfl, rfl, ?_⟩
          intro x y hx hy
          rw [vn_t]
          by_cases hxb : x = b
          · subst hxb
            rw [pk_us, pk_un (Ne.symm hab), b_or, b_one (by omega) (by omega)]
            by_cases hya : y = a
            · subst hya; rw [pk_us]; simp [bI]
            · rw [pk_un (by omega), pk_un (by omega), hc x y hx hy]; simp [hya]
          · by_cases hxa : x = a
            · subst hxa
              rw [pk_un (by omega), pk_un hab, pk_us, b_or, b_one (by omega) (by omega)]
              by_cases hyb : y = b
              · subst hyb; rw [pk_us]; simp [bI]
              · rw [pk_un (by omega), hc x y hx hy]; simp [hyb]
            · rw [pk_un (by omega), pk_un (by omega), pk_un hxb, pk_un hxa, hc x y hx hy]
    · simp only [gF h2]; exact Or.inl ⟨trivial, _, rfl⟩
  · simp only [gF h1]; exact Or.inl ⟨trivial, _, rfl⟩
