theorem lj0 : (0 : Int64) = lN 0 := rfl
theorem beg {a b : Int32} : ∀ (k n i v : Nat), i + k = 6 → k < n → v < 2 ^ 31 → k_Or_beginning_4 a b n (nI v) (nI i) = some (nI (v / 10 ^ k)) := by
  intro k
  induction k with
  | zero =>
    intro n i v hi hn hv
    obtain ⟨n, rfl⟩ : ∃ k, n = k + 1 := ⟨n - 1, by omega⟩
    rw [k_Or_beginning_4_s, li6, if_pos (by rw [i_le (by omega) (by omega)]; omega), Nat.pow_zero, Nat.div_one]
  | succ k ih =>
    intro n i v hi hn hv
    obtain ⟨n, rfl⟩ : ∃ k, n = k + 1 := ⟨n - 1, by omega⟩
    rw [k_Or_beginning_4_s, li6, if_neg (by rw [i_le (by omega) (by omega)]; omega), nI_1, li10, pk_div hv (by omega) (by omega), ih n (i + 1) (v / 10) (by omega) (by omega) (by omega), Nat.div_div_eq_div_mul, Nat.pow_succ, Nat.mul_comm]
theorem begin_eq {v d : Nat} (hv : v < 2 ^ 31) (hd : d ≤ 6) : m_Or_beginning (nI v) (nI d) = some (nI (v / 10 ^ (6 - d))) := beg (6 - d) 2000 d v (by omega) (by omega) hv
theorem fcents {lpr pairs psz parts O : Int32} {lful full : Bool} {ljn joined pcd pld pc pl : Nat → Int32} {pct pv : Nat → Int64} {m : Nat}
    (hO : ∀ l, l < 10 → m_Md_isOwn (nI l) full joined = some (bt O l)) (hm : m ≤ 12) (hc : ∀ j, j < m → pl j = pld j ∧ pv j = pct j ∧ (∃ l : Nat, l < 10 ∧ pld j = nI l) ∧ (∃ w : Nat, w ≤ 1000000000 ∧ pct j = lN w)) :
    ∀ (d n i A : Nat), i + d = m → d < n → ∃ A', k_Parts_foreignCents_5 (nI m) pld pct O n (lN A) (nI i) = some (lN A') ∧ k_Md_foreign_4 (nI m) full pl pv joined n (lN A) (nI i) = some (lN A') ∧ A' ≤ A + d * 1000000000 := by
  intro d
  induction d with
  | zero =>
    intro n i A hi hn
    obtain ⟨n, rfl⟩ : ∃ k, n = k + 1 := ⟨n - 1, by omega⟩
    rw [k_Parts_foreignCents_5_s, k_Md_foreign_4_s, if_pos (by rw [i_le (by omega) (by omega)]; omega), if_pos (by rw [i_le (by omega) (by omega)]; omega)]
    exact ⟨A, rfl, rfl, by omega⟩
  | succ d ih =>
    intro n i A hi hn
    obtain ⟨n, rfl⟩ : ∃ k, n = k + 1 := ⟨n - 1, by omega⟩
    obtain ⟨e1, e2, ⟨l, hl, e3⟩, ⟨w, hw, e4⟩⟩ := hc i (by omega)
    rw [k_Parts_foreignCents_5_s, k_Md_foreign_4_s, if_neg (by rw [i_le (by omega) (by omega)]; omega), if_neg (by rw [i_le (by omega) (by omega)]; omega)]
    simp (disch := omega) only [ix_ok, clI, e1, e2, e3, e4, hb, hO l hl, e_bd1, nI_1, lN_add]
    cases hbt : bt O l with
    | false =>
      simp only [gf]
      obtain ⟨A', h1, h2, h3⟩ := ih n (i + 1) (A + w) (by omega) (by omega)
      exact ⟨A', h1, h2, by omega⟩
    | true =>
      simp only [gt]
      obtain ⟨A', h1, h2, h3⟩ := ih n (i + 1) A (by omega) (by omega)
      have h5 : A' ≤ A + (d + 1) * 1000000000 := Nat.le_trans h3 (Nat.add_le_add_left (Nat.mul_le_mul_right _ (Nat.le_succ d)) A)
      refine ⟨A', h1, ?_, h5⟩
      rw [lj0, lN_add]; exact h2
theorem fparts {O p s1 s2 s3 s4 s5 s6 : Int32} {full : Bool} {joined pld pl : Nat → Int32} {m : Nat}
    (hO : ∀ l, l < 10 → m_Md_isOwn (nI l) full joined = some (bt O l)) (hm : m ≤ 12) (hc : ∀ j, j < m → pl j = pld j ∧ (∃ l : Nat, l < 10 ∧ pld j = nI l)) :
    ∀ (d n i : Nat) (x th : Int32), i + d = m → d < n → ∃ x', k_Parts_foreignParts_4 (nI m) pld O n x (nI i) = some x' ∧ k_Md_count_9 s1 s2 (nI m) s3 s4 full s5 s6 pl joined p n x (nI i) th =
      (if p = 0 then some (s1, th) else if p = 1 then some (s2, th) else if p = 2 then some (nI m, th) else if p = 3 then some (x', th) else if p = 4 then some (s3, th) else if p = 5 then some (s4, th) else if p = 6 then some (s5, th) else if p = 7 then some (s6, th) else some (-1, th)) := by
  intro d
  induction d with
  | zero =>
    intro n i x th hi hn
    obtain ⟨n, rfl⟩ : ∃ k, n = k + 1 := ⟨n - 1, by omega⟩
    rw [k_Parts_foreignParts_4_s, k_Md_count_9_s, if_pos (by rw [i_le (by omega) (by omega)]; omega), if_pos (by rw [i_le (by omega) (by omega)]; omega)]
    exact ⟨x, rfl, rfl⟩
  | succ d ih =>
    intro n i x th hi hn
    obtain ⟨n, rfl⟩ : ∃ k, n = k + 1 := ⟨n - 1, by omega⟩
    obtain ⟨e1, ⟨l, hl, e3⟩⟩ := hc i (by omega)
    rw [k_Parts_foreignParts_4_s, k_Md_count_9_s, if_neg (by rw [i_le (by omega) (by omega)]; omega), if_neg (by rw [i_le (by omega) (by omega)]; omega)]
    simp (disch := omega) only [ix_ok, clI, e1, e3, hb, hO l hl, e_bd1, nI_1, Int32.add_zero]
    cases hbt : bt O l with
    | false =>
      simp only [gf]
      exact ih n (i + 1) (x + 1) th (by omega) (by omega)
    | true =>
      simp only [gt]
      exact ih n (i + 1) x th (by omega) (by omega)
theorem falike {O p2 up down : Int32} {q : Int64} {full : Bool} {joined pcd pld pc pl : Nat → Int32} {pct pv : Nat → Int64} {m code d10 D : Nat}
    (hO : ∀ l, l < 10 → m_Md_isOwn (nI l) full joined = some (bt O l)) (hm : m ≤ 12) (hcode : code < 2 ^ 31) (hd : d10 ≤ 6) (hD : D = 10 ^ (6 - d10)) (hD1 : 0 < D) (hD2 : D < 2 ^ 31)
    (hc : ∀ j, j < m → pc j = pcd j ∧ pl j = pld j ∧ pv j = pct j ∧ (∃ v : Nat, v ≤ 999999 ∧ pcd j = nI v) ∧ (∃ l : Nat, l < 10 ∧ pld j = nI l) ∧ (∃ w : Nat, w ≤ 1000000000 ∧ pct j = lN w)) :
    ∀ (d n i A : Nat) (fl : Bool), i + d = m → d < n → (fl = false → A = 0) → ∃ A' fl', (fl' = false → A' = 0) ∧ k_Parts_foreignCentsAlike_13 (nI m) pcd pld pct O p2 (nI d10) n (nI (code / D)) (lN A) (nI i) = some (lN A') ∧
      k_Md_isOther_9 (nI m) full up down pc pl pv joined (nI code) q (nI D) n (lN A) fl (nI i) = (if bI fl' = 0 then some true else if 0 < lg_cmp (lN A' * down.toInt64) (q * up.toInt64) then some false else some true) := by
  intro d
  induction d with
  | zero =>
    intro n i A fl hi hn hfl
    obtain ⟨n, rfl⟩ : ∃ k, n = k + 1 := ⟨n - 1, by omega⟩
    rw [k_Parts_foreignCentsAlike_13_s, k_Md_isOther_9_s, if_pos (by rw [i_le (by omega) (by omega)]; omega), if_pos (by rw [i_le (by omega) (by omega)]; omega)]
    exact ⟨A, fl, hfl, rfl, rfl⟩
  | succ d ih =>
    intro n i A fl hi hn hfl
    obtain ⟨n, rfl⟩ : ∃ k, n = k + 1 := ⟨n - 1, by omega⟩
    obtain ⟨e1, e2, e0, ⟨v, hv, e5⟩, ⟨l, hl, e3⟩, ⟨w, hw, e4⟩⟩ := hc i (by omega)
    rw [k_Parts_foreignCentsAlike_13_s, k_Md_isOther_9_s, if_neg (by rw [i_le (by omega) (by omega)]; omega), if_neg (by rw [i_le (by omega) (by omega)]; omega)]
    have hnz : ∀ (k : Option Bool), nzgI (nI D) k = k := fun k => if_neg (nI_ne0 hD1 hD2)
    unfold k_Md_isOther_53 k_Md_isOther_54 k_Md_isOther_74
    simp (disch := omega) only [ix_ok, clI, e0, e1, e2, e3, e4, e5, hb, hO l hl, e_bd1, nI_1, lN_add, begin_eq, hnz, pk_div]
    rw [← hD]
    have hlt1 : v / D < 2 ^ 31 := Nat.lt_of_le_of_lt (Nat.div_le_self _ _) (by omega)
    have hlt2 : code / D < 2 ^ 31 := Nat.lt_of_le_of_lt (Nat.div_le_self _ _) hcode
    simp only [i_eq hlt1 hlt2]
    cases hbt : bt O l with
    | false =>
      simp only [gf, gt]
      by_cases hvc : v / D = code / D
      · simp only [if_pos hvc]
        obtain ⟨A', fl', h0, h1, h2⟩ := ih n (i + 1) (A + w) true (by omega) (by omega) (by simp)
        refine ⟨A', fl', h0, h1, ?_⟩
        cases fl <;> simp only [gf, gt] <;> exact h2
      · simp only [if_neg hvc]
        obtain ⟨A', fl', h0, h1, h2⟩ := ih n (i + 1) A fl (by omega) (by omega) hfl
        refine ⟨A', fl', h0, h1, ?_⟩
        rw [lj0, lN_add]
        cases fl <;> simp only [gf, gt] <;> exact h2
    | true =>
      simp only [gt, gf]
      obtain ⟨A', fl', h0, h1, h2⟩ := ih n (i + 1) A fl (by omega) (by omega) hfl
      refine ⟨A', fl', h0, h1, ?_⟩
      rw [lj0, lN_add]
      cases fl <;> simp only [gf, gt] <;> exact h2
theorem changed_eq {psz parts tup tdn up down lpr pairs : Int32} {lful full : Bool} {ljn joined pcd pld pc pl : Nat → Int32} {pct pv : Nat → Int64} {code w d10 D : Nat}
    (hP : JP psz pcd pld pct parts pc pl pv) (hL : JL lpr lful ljn pairs full joined) (hO : JO tup tdn up down) (hcode : code ≤ 999999) (hw : w ≤ 1000000000) (hd : d10 ≤ 6) (hD : D = 10 ^ (6 - d10)) (hD1 : 0 < D) (hD2 : D < 2 ^ 31) :
    ∃ b, m_Or_isChanged (nI code) (nI d10) (lN w) tup tdn psz pcd pld pct lful ljn = some b ∧ m_Md_isOther (nI code) (lN w) (nI D) parts full up down pc pl pv joined = some b := by
  obtain ⟨m, hm, rfl, rfl, hc⟩ := hP
  obtain ⟨O, h1, h2⟩ := own_eq hL
  obtain ⟨rfl, rfl, u, dd, hu, hdd, rfl, rfl⟩ := hO
  unfold m_Or_isChanged m_Md_isOther m_Parts_foreignCentsAlike
  rw [h1, e_bd1, begin_eq (by omega) hd, e_bd1, ← hD]
  obtain ⟨A', fl', h3, h4, h5⟩ := falike (O := O) (p2 := nI code) (up := nI u) (down := nI dd) (q := lN w) (full := full) (joined := joined) (pcd := pcd) (pld := pld) (pc := pc) (pl := pl) (pct := pct) (pv := pv) (m := m) (code := code) (d10 := d10) (D := D) h2 hm (by omega) hd hD hD1 hD2 hc m 2000 0 0 false (by omega) (by omega) (fun _ => rfl)
  rw [← lj0, ← li0] at h4 h5
  rw [h4, h5, e_bd1, nI_l (by omega), nI_l (by omega), lN_mul, lN_mul, lN_mul, Nat.mul_comm w u]
  cases fl' with
  | false =>
    rw [h3 rfl, gf, Nat.zero_mul, if_neg (by
      rw [lg_cmp_gt, pk_lLT (Nat.lt_of_le_of_lt (Nat.mul_le_mul hu hw) (by omega)) (by omega)]; omega)]
    exact ⟨true, rfl, rfl⟩
  | true =>
    rw [gt]
    split
    · exact ⟨false, rfl, rfl⟩
    · exact ⟨true, rfl, rfl⟩
theorem foreign_eq {psz parts lpr pairs : Int32} {lful full : Bool} {ljn joined pcd pld pc pl : Nat → Int32} {pct pv : Nat → Int64}
    (hP : JP psz pcd pld pct parts pc pl pv) (hL : JL lpr lful ljn pairs full joined) :
    ∃ O A, m_Lands_ownLands lful ljn = some O ∧ m_Parts_foreignCents O psz pld pct = some (lN A) ∧ m_Md_foreign parts full pl pv joined = some (lN A) ∧ A ≤ 12000000000 := by
  obtain ⟨m, hm, rfl, rfl, hc⟩ := hP
  obtain ⟨O, h1, h2⟩ := own_eq hL
  obtain ⟨A', h3, h4, h5⟩ := fcents (lpr := lpr) (pairs := pairs) (psz := 0) (parts := 0) (lful := lful) (ljn := ljn) (pcd := pcd) (pc := pc) (O := O) (full := full) (joined := joined) (pld := pld) (pl := pl) (pct := pct) (pv := pv) (m := m) h2 hm (fun j hj => ⟨(hc j hj).2.1, (hc j hj).2.2.1, (hc j hj).2.2.2.2.1, (hc j hj).2.2.2.2.2⟩) m 2000 0 0 (by omega) (by omega)
  exact ⟨O, A', h1, h3, h4, by omega⟩
theorem within_eq {psz parts lpr pairs : Int32} {lful full : Bool} {ljn joined pcd pld pc pl : Nat → Int32} {pct pv : Nat → Int64} {q : Int64} {r : Int32}
    (hP : JP psz pcd pld pct parts pc pl pv) (hL : JL lpr lful ljn pairs full joined) :
    ∃ b, m_Or_isShareWithin r q psz pld pct lful ljn = some b ∧ (if lg_cmp q 0 ≤ 0 then some false else bd1 (m_Md_foreign parts full pl pv joined) (fun r_106 => if 0 < lg_cmp (100 * r_106) (r.toInt64 * q) then some false else some true)) = some b := by
  obtain ⟨O, A, h1, h2, h3, h4⟩ := foreign_eq hP hL
  unfold m_Or_isShareWithin
  rw [h1, e_bd1, h2, e_bd1, h3, e_bd1, Int64.mul_comm 100]
  split
  · exact ⟨false, rfl, rfl⟩
  · split
    · exact ⟨false, rfl, rfl⟩
    · exact ⟨true, rfl, rfl⟩
theorem s_own {p lpr pairs th : Int32} {lful full : Bool} {ljn joined : Nat → Int32} (hL : JL lpr lful ljn pairs full joined) :
    (m_Or_own p lful ljn = some (.inl 0) ∧ ∃ z, m_Md_own p full joined th = some (z, 1)) ∨ (∃ z, m_Or_own p lful ljn = some (.inr z) ∧ m_Md_own p full joined th = some (z, 0)) := by
  obtain ⟨O, h1, h2⟩ := own_eq hL
  unfold m_Or_own m_Md_own k_Md_own_18
  simp only [or_land, md_land, e_bd1]
  by_cases h3 : 0 ≤ p.toInt ∧ p.toInt ≤ 9
  · simp only [gT h3]
    obtain ⟨l, hl, rfl⟩ := nI_ex (x := p) (m := 9) (by omega) (by omega)
    rw [h1, e_bd1, hb (by omega), e_bd1, h2 l (by omega), gf, e_bd1]
    right
    refine ⟨_, rfl, ?_⟩
    cases bt O l <;> rfl
  · simp only [gF h3]; exact Or.inl ⟨trivial, _, rfl⟩
theorem s_count {p done askd tlen rsz psz lpr fsz signs rows parts edone pairs proofs asked th : Int32} {lful full : Bool} {ljn joined pcd pld pc pl answ told tsg text : Nat → Int32} {pct pv : Nat → Int64} {fkd ffr fto pk pf pt : Nat → Int32}
    (hd : done = edone) (hr : rsz = rows) (hT : JT tlen tsg signs text) (hP : JP psz pcd pld pct parts pc pl pv) (hL : JL lpr lful ljn pairs full joined) (hF : JF fsz fkd ffr fto proofs pk pf pt) (hW : JW askd answ asked told) :
    ∃ r th', m_Or_count p done askd tlen rsz psz pld lpr lful ljn fsz = some r ∧ m_Md_count p signs rows parts edone pairs full proofs asked pl joined th = some (r, th') := by
  obtain ⟨O, h1, h2⟩ := own_eq hL
  obtain ⟨m, hm, rfl, rfl, hc⟩ := hP
  obtain ⟨k, _, rfl, rfl, _⟩ := hF
  obtain ⟨q, _, rfl, rfl, _⟩ := hW
  obtain ⟨a, c, _, rfl, rfl, _⟩ := hT
  obtain ⟨rfl, rfl, _⟩ := hL
  subst hd; subst hr
  obtain ⟨x', h3, h4⟩ := fparts (O := O) (p := p) (s1 := nI a) (s2 := rsz) (s3 := done) (s4 := lpr) (s5 := nI k) (s6 := nI q) (full := lful) (joined := joined) (pld := pld) (pl := pl) (m := m) h2 hm (fun j hj => ⟨(hc j hj).2.1, (hc j hj).2.2.2.2.1⟩) m 2000 0 0 0 (by omega) (by omega)
  unfold m_Or_count m_Md_count m_Parts_foreignParts
  rw [← li0] at h3 h4
  rw [h4, h1, e_bd1, h3, e_bd1]
  repeat' split
  all_goals exact ⟨_, _, rfl, rfl⟩
theorem half {B r : Nat} (hr : 0 < r) (h : r < B) : 2 * (B % r) < B := by
  have h1 := Nat.mod_lt B hr
  have h2 := Nat.div_add_mod B r
  have h3 : 1 ≤ B / r := Nat.div_pos (Nat.le_of_lt h) hr
  have h4 : r * 1 ≤ r * (B / r) := Nat.mul_le_mul_left r h3
  omega
theorem gcd0 {a b p1 X : Int64} {p2 th parts : Int32} {full : Bool} {pl joined : Nat → Int32} {pv : Nat → Int64} {n n' A s : Nat} (hs : s < 100) :
    k_Or_greatestDivisor_9 a b (n + 1) (lN A) (lN 0) (nI s) = some (lN A) ∧ k_Md_share_59 parts full pl pv joined p1 p2 (n' + 1) X (lN A) (lN 0) th = (if p2 = 0 then nzgJ (lN A) (some (X / lN A, th)) else nzgJ (lN A) (some (p1 / lN A, th))) := by
  rw [k_Or_greatestDivisor_9_s, k_Md_share_59_s, li100, if_neg (by rw [i_le (by omega) (by omega)]; omega), if_pos (by rw [lg_cmp_eq]; rfl), if_pos (by rw [lg_cmp_le]; decide)]
  exact ⟨rfl, rfl⟩
theorem gcd1 {a b p1 X : Int64} {p2 th parts : Int32} {full : Bool} {pl joined : Nat → Int32} {pv : Nat → Int64} {n n' A B s : Nat} (hs : s < 100) (hA : A < 2 ^ 62) (hB : B < 2 ^ 62) (h0 : 0 < B) :
    k_Or_greatestDivisor_9 a b (n + 1) (lN A) (lN B) (nI s) = k_Or_greatestDivisor_9 a b n (lN B) (lN (A % B)) (nI (s + 1)) ∧ k_Md_share_59 parts full pl pv joined p1 p2 (n' + 1) X (lN A) (lN B) th = k_Md_share_59 parts full pl pv joined p1 p2 n' X (lN B) (lN (A % B)) th := by
  have hne : ¬ lN B = 0 := by rw [lj0, pk_lEQ (by omega) (by omega)]; omega
  rw [k_Or_greatestDivisor_9_s, k_Md_share_59_s, li100, if_neg (by rw [i_le (by omega) (by omega)]; omega), if_neg (by rw [lg_cmp_eq]; exact hne), if_neg (by rw [lg_cmp_le, lj0, pk_lLE (by omega) (by omega)]; omega), pk_lRem (by omega) h0 (by omega), nI_1]
  exact ⟨if_neg hne, if_neg hne⟩
theorem gcdk {a b p1 X : Int64} {p2 th parts : Int32} {full : Bool} {pl joined : Nat → Int32} {pv : Nat → Int64} : ∀ (k n n' A B s : Nat), B < 2 ^ k → k ≤ 40 → s + 2 * k < 100 → 2 * k < n → 2 * k < n' → A < 2 ^ 62 → 0 < A ∨ 0 < B →
    ∃ G, 0 < G ∧ G < 2 ^ 62 ∧ k_Or_greatestDivisor_9 a b n (lN A) (lN B) (nI s) = some (lN G) ∧ k_Md_share_59 parts full pl pv joined p1 p2 n' X (lN A) (lN B) th = (if p2 = 0 then nzgJ (lN G) (some (X / lN G, th)) else nzgJ (lN G) (some (p1 / lN G, th))) := by
  intro k
  induction k with
  | zero =>
    intro n n' A B s hB _ hs hn hn' hA h0
    have hB0 : B = 0 := by simpa using hB
    subst hB0
    obtain ⟨n, rfl⟩ : ∃ k, n = k + 1 := ⟨n - 1, by omega⟩
    obtain ⟨n', rfl⟩ : ∃ k, n' = k + 1 := ⟨n' - 1, by omega⟩
    obtain ⟨g1, g2⟩ := gcd0 (a := a) (b := b) (p1 := p1) (X := X) (p2 := p2) (th := th) (parts := parts) (full := full) (pl := pl) (joined := joined) (pv := pv) (n := n) (n' := n') (A := A) (s := s) (by omega)
    exact ⟨A, by omega, by omega, g1, g2⟩
  | succ k ih =>
    intro n n' A B s hB hk hs hn hn' hA h0
    have hp : 2 ^ (k + 1) ≤ 2 ^ 40 := Nat.pow_le_pow_right (by omega) (by omega)
    obtain ⟨n, rfl⟩ : ∃ k, n = k + 1 := ⟨n - 1, by omega⟩
    obtain ⟨n', rfl⟩ : ∃ k, n' = k + 1 := ⟨n' - 1, by omega⟩
    by_cases hB0 : B = 0
    · subst hB0
      obtain ⟨g1, g2⟩ := gcd0 (a := a) (b := b) (p1 := p1) (X := X) (p2 := p2) (th := th) (parts := parts) (full := full) (pl := pl) (joined := joined) (pv := pv) (n := n) (n' := n') (A := A) (s := s) (by omega)
      exact ⟨A, by omega, by omega, g1, g2⟩
    · obtain ⟨g1, g2⟩ := gcd1 (a := a) (b := b) (p1 := p1) (X := X) (p2 := p2) (th := th) (parts := parts) (full := full) (pl := pl) (joined := joined) (pv := pv) (n := n) (n' := n') (A := A) (B := B) (s := s) (by omega) hA (by omega) (by omega)
      rw [g1, g2]
      obtain ⟨n, rfl⟩ : ∃ k, n = k + 1 := ⟨n - 1, by omega⟩
      obtain ⟨n', rfl⟩ : ∃ k, n' = k + 1 := ⟨n' - 1, by omega⟩
      have hr := Nat.mod_lt A (show 0 < B by omega)
      by_cases hr0 : A % B = 0
      · rw [hr0]
        obtain ⟨g1, g2⟩ := gcd0 (a := a) (b := b) (p1 := p1) (X := X) (p2 := p2) (th := th) (parts := parts) (full := full) (pl := pl) (joined := joined) (pv := pv) (n := n) (n' := n') (A := B) (s := s + 1) (by omega)
        exact ⟨B, by omega, by omega, g1, g2⟩
      · obtain ⟨g1, g2⟩ := gcd1 (a := a) (b := b) (p1 := p1) (X := X) (p2 := p2) (th := th) (parts := parts) (full := full) (pl := pl) (joined := joined) (pv := pv) (n := n) (n' := n') (A := B) (B := A % B) (s := s + 1) (by omega) (by omega) (by omega) (by omega)
        rw [g1, g2]
        have h2 := half (B := B) (r := A % B) (by omega) hr
        rw [Nat.pow_succ] at hB
        exact ih n n' (A % B) (B % (A % B)) (s + 1 + 1) (by omega) (by omega) (by omega) (by omega) (by omega) (by omega) (Or.inl (by omega))
theorem s_share {p : Int64} {q psz parts lpr pairs th : Int32} {lful full : Bool} {ljn joined pcd pld pc pl : Nat → Int32} {pct pv : Nat → Int64}
    (hP : JP psz pcd pld pct parts pc pl pv) (hL : JL lpr lful ljn pairs full joined) :
    (∃ e k : Nat, m_Or_share p q psz pld pct lful ljn = some (.inl e) ∧ ((e = 0 ∧ k = 1) ∨ (e = 2 ∧ k = 2)) ∧ ∃ z, m_Md_share p q parts full pl pv joined th = some (z, nI k)) ∨
    (∃ z, m_Or_share p q psz pld pct lful ljn = some (.inr z) ∧ m_Md_share p q parts full pl pv joined th = some (z, 0)) := by
  obtain ⟨O, A, h1, h2, h3, h4⟩ := foreign_eq hP hL
  unfold m_Or_share m_Md_share m_Or_greatestDivisor
  simp only [or_cents, md_cents, md_bit, e_bd1, Int32.lt_iff_toInt_lt, Int32.le_iff_toInt_le, ti0, ti1]
  by_cases h5 : 0 ≤ p.toInt ∧ p.toInt ≤ 1000000000
  · simp only [gT h5]
    by_cases h6 : 0 ≤ q.toInt ∧ q.toInt ≤ 1
    · simp only [gT h6]
      rw [if_neg (show ¬ q.toInt < 0 by omega), if_pos h6.2]
      by_cases h7 : lg_cmp p 0 = 0
      · rw [if_pos h7, if_pos h7]
        exact Or.inl ⟨2, 2, rfl, Or.inr ⟨rfl, rfl⟩, _, rfl⟩
      · rw [if_neg h7, if_neg h7]
        rw [lg_cmp_eq] at h7
        obtain ⟨w, hw, rfl⟩ := lN_ex (x := p) (m := 1000000000) (by omega) (by omega)
        have hw0 : 0 < w := Nat.pos_of_ne_zero (fun e => h7 (by rw [e]; rfl))
        obtain ⟨G, g1, g2, g3, g4⟩ := gcdk (a := lN A) (b := lN w) (p1 := lN w) (X := lN A) (p2 := q) (th := 0) (parts := parts) (full := full) (pl := pl) (joined := joined) (pv := pv) 40 2000 2000 A w 0 (by omega) (by omega) (by omega) (by omega) (by omega) (by omega) (Or.inr hw0)
        rw [← li0] at g3
        rw [h1, e_bd1, h2, e_bd1, h3, e_bd1, g3, e_bd1, g4]
        rw [if_neg (show ¬ lN G < 1 by rw [show (1 : Int64) = lN 1 from rfl, pk_lLT (by omega) (by omega)]; omega)]
        have hz : ∀ {α : Type} (k : Option α), nzgJ (lN G) k = k := fun k => if_neg (by rw [lj0, pk_lEQ (by omega) (by omega)]; omega)
        rw [hz, hz, hz, hz]
        right
        by_cases h8 : q = 0
        · rw [if_pos h8, if_pos h8]; exact ⟨_, rfl, rfl⟩
        · rw [if_neg h8, if_neg h8]; exact ⟨_, rfl, rfl⟩
    · simp only [gF h6]
      refine Or.inl ⟨0, 1, ?_, Or.inl ⟨rfl, rfl⟩, _, rfl⟩
      by_cases h7 : q.toInt < 0
      · rw [if_pos h7]
      · rw [if_neg h7, if_neg (by omega)]
  · simp only [gF h5]; exact Or.inl ⟨0, 1, rfl, Or.inl ⟨rfl, rfl⟩, _, rfl⟩
