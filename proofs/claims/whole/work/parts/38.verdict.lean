theorem pre_sim {c : Nat → Nat} {r st j k code w : Nat} {done tup tdn psz parts up down lpr pairs : Int32} {rsg pcd pld ljn read begins pc pl joined : Nat → Int32} {pct pv : Nat → Int64} {lful full : Bool} (hr : r ≤ 300) (hk : k ≤ 20) (hcode : code ≤ 999999) (hw : w ≤ 1000000000) (hc : ∀ j, j < r → rsg j = nI (c j) ∧ read j = nI (c j) ∧ c j ≤ 126) (hA : AT c r (0, 0, 0, 0, k)) (hP : JP psz pcd pld pct parts pc pl pv) (hL : JL lpr lful ljn pairs full joined) (hO : JO tup tdn up down) (hj : j < k) (hst : st < r) (hbg : begins j = nI st) {answ told live any all : Nat → Int32} (hE : EV 2 0 0 false false live any all) :
    ∀ (d n n' p : Nat) (s : S5), p + d = r → d < n → d < n' → AT c p s → s.1 ≤ 1 → (s.1 = 0 → p = st) → (s.1 = 1 → st + 1 ≤ p) → p < r →
    FIN (k_Or_ruleHolds_17 done tup tdn (nI r) rsg psz pcd pld pct lful ljn (nI st) (nI code) (lN w) n false false (nI 0) (nI p) (nI 0) answ) (k_Md_ruled_37 parts done full up down read begins pc pl pv joined (nI j) (nI code) (lN w) n' false (nI p) (nI 0) told live any all) := by
  have hcR : ∀ j, j < r → rsg j = nI (c j) ∧ c j ≤ 126 := fun j hj => ⟨(hc j hj).1, (hc j hj).2.2⟩
  have hcM : ∀ j, j < r → read j = nI (c j) ∧ c j ≤ 126 := fun j hj => (hc j hj).2
  intro d
  induction d with
  | zero => intro n n' p s hp _ _ _ _ _ _ h; omega
  | succ d ih =>
    intro n n' p s hp hn hn' hAp h1 hs0 hs1 hpr
    obtain ⟨n, rfl⟩ : ∃ k, n = k + 1 := ⟨n - 1, by omega⟩
    obtain ⟨n', rfl⟩ : ∃ k, n' = k + 1 := ⟨n' - 1, by omega⟩
    obtain ⟨s', hnx, hAp'⟩ := at_nx hAp hA hpr
    obtain ⟨md, dp, ct, vl, rw⟩ := s
    have hs := ok_un (ok_at hAp)
    obtain ⟨e3, e4⟩ := hcM p hpr
    simp only at h1 hs0 hs1
    rw [k_Md_ruled_37_s, ix_ok (by omega) (by omega), clI (by omega), e3, li58, nI_1]
    simp only [i_eq (show c p < 2 ^ 31 by omega) (show 58 < 2 ^ 31 by omega)]
    have digit : (48 ≤ c p ∧ c p ≤ 57) → s'.1 = 1 → FIN (k_Or_ruleHolds_17 done tup tdn (nI r) rsg psz pcd pld pct lful ljn (nI st) (nI code) (lN w) (n + 1) false false (nI 0) (nI p) (nI 0) answ) (if c p = 58 then k_Md_ruled_61 parts done full up down read begins pc pl pv joined (nI j) (nI code) (lN w) 2000 (bI false) (nI (p + 1)) (nI 0) told live any all else k_Md_ruled_37 parts done full up down read begins pc pl pv joined (nI j) (nI code) (lN w) n' false (nI (p + 1)) (nI 0) told live any all) := by
      intro hd hs'
      rw [if_neg (by omega), c_same hr hcR hpr (by omega) (by omega) (by omega) (by omega)]
      have hlt : p + 1 < r := by
        rcases Nat.lt_or_ge (p + 1) r with h | h
        · exact h
        · rw [show p + 1 = r by omega] at hAp'
          rw [at_fun hAp' hA] at hs'
          simp only at hs'
          omega
      exact ih n n' (p + 1) s' (by omega) (by omega) (by omega) hAp' (by omega) (fun h => absurd h (by omega)) (fun _ => by
        by_cases h0 : md = 0
        · have := hs0 h0; omega
        · have := hs1 (by omega); omega) hlt
    have hmd : md = 0 ∨ md = 1 := by omega
    rcases hmd with rfl | rfl
    · rw [nx0] at hnx
      split at hnx
      · rename_i hcond
        cases hnx
        exact digit hcond.1 rfl
      · cases hnx
    · rw [nx1] at hnx
      split at hnx
      · rename_i hcond
        cases hnx
        exact digit hcond.1 rfl
      · split at hnx
        · rename_i _ h58
          cases hnx
          rw [if_pos h58, c_same hr hcR hpr (by omega) (by omega) (by omega) (by omega)]
          have := hs1 rfl
          exact rule_sim (begins := begins) hr hk hcode hw hc hA hP hL hO hj hst hbg d n 2000 (p + 1) 0 0 (2, 0, 0, 0, rw) false false answ told live any all (by omega) (by omega) (by omega) hAp' (by simp) hE (fun _ => by omega) (fun h => absurd rfl h) (fun i hi => absurd hi (by omega))
        · cases hnx
theorem rule_eq {c : Nat → Nat} {r st j k code w : Nat} {done tup tdn psz parts up down lpr pairs : Int32} {rsg pcd pld ljn read begins pc pl joined : Nat → Int32} {pct pv : Nat → Int64} {lful full : Bool} (hr : r ≤ 300) (hk : k ≤ 20) (hcode : code ≤ 999999) (hw : w ≤ 1000000000) (hc : ∀ j, j < r → rsg j = nI (c j) ∧ read j = nI (c j) ∧ c j ≤ 126) (hA : AT c r (0, 0, 0, 0, k)) (hP : JP psz pcd pld pct parts pc pl pv) (hL : JL lpr lful ljn pairs full joined) (hO : JO tup tdn up down) (hj : j < k) (hst : st < r) (hbg : begins j = nI st) (hAs : AT c st (0, 0, 0, 0, j)) (askd asked : Int32) (answ told live any all : Nat → Int32) :
    FIN (m_Or_ruleHolds (nI st) (nI code) (lN w) done tup tdn (nI r) rsg psz pcd pld pct lful ljn askd answ) (m_Md_ruled (nI j) (nI code) (lN w) parts done full up down read begins pc pl pv joined asked told live any all) := by
  unfold m_Or_ruleHolds m_Md_ruled
  rw [show ixg (0 : Int32) 9 = ixg (nI 0) 9 from rfl, ix_ok (by omega) (by omega), ix_ok (by omega) (by omega), ix_ok (by omega) (by omega), ix_ok (by omega) (by omega), clI (by omega), hbg, vn_t, vn_f, show (0 : Int32).toNatClampNeg = 0 by decide]
  refine pre_sim (begins := begins) hr hk hcode hw hc hA hP hL hO hj hst hbg (Or.inl ⟨rfl, rfl, fun i hi => ?_, fun i hi => absurd hi (by omega), fun _ => pk_us, fun h => absurd rfl h⟩) (r - st) 2000 2000 st (0, 0, 0, 0, j) (by omega) (by omega) (by omega) hAs (by simp) (fun _ => rfl) (fun h => absurd h (by simp)) hst
  rw [show i = 0 by omega, pk_us, pk_us]
  exact ⟨rfl, rfl⟩
theorem s_verdict {p : Int32} {q : Int64} {done brd tup tdn psz parts up down lpr pairs rlen rsz rows askd asked th : Int32} {rsg pcd pld ljn read begins pc pl joined answ told live any all : Nat → Int32} {pct pv : Nat → Int64} {lful full : Bool}
    (hR : JR rlen rsz rsg rows read begins) (hP : JP psz pcd pld pct parts pc pl pv) (hL : JL lpr lful ljn pairs full joined) (hO : JO tup tdn up down) (hW : JW askd answ asked told) :
    (m_Or_verdict p q done brd tup tdn rlen rsg psz pcd pld pct lful ljn askd answ = some (.inl 0) ∧ ∃ z, m_Md_verdict p q rows parts done brd full up down read begins pc pl pv joined th asked told live any all = some (z, 1, asked, told, live, any, all)) ∨
    (∃ z askd' answ' asked' told' live' any' all', m_Or_verdict p q done brd tup tdn rlen rsg psz pcd pld pct lful ljn askd answ = some (.inr (z, askd', answ')) ∧ m_Md_verdict p q rows parts done brd full up down read begins pc pl pv joined th asked told live any all = some (z, 0, asked', told', live', any', all') ∧ JW askd' answ' asked' told') := by
  obtain ⟨_, r, k, c, hr, hk, rfl, rfl, hc, hA, hB⟩ := hR
  unfold m_Or_verdict m_Md_verdict k_Md_verdict_71
  simp only [or_code, md_code, or_cents, md_cents, e_bd1]
  by_cases h1 : 1 ≤ p.toInt ∧ p.toInt ≤ 999999
  · simp only [gT h1]
    by_cases h2 : 0 ≤ q.toInt ∧ q.toInt ≤ 1000000000
    · simp only [gT h2]
      obtain ⟨code, hcode, rfl⟩ := nI_ex (x := p) (m := 999999) (by omega) (by omega)
      obtain ⟨w, hw, rfl⟩ := lN_ex (x := q) (m := 1000000000) (by omega) (by omega)
      obtain ⟨x, y, g1, g2, g3⟩ := start_eq hr hk hcode hc hA hB
      rw [g1, e_bd1, g2, e_bd1]
      right
      rcases g3 with ⟨rfl, rfl⟩ | ⟨st, j, rfl, rfl, hj, hst, hAs⟩
      · rw [if_pos rfl, if_neg m1neg]
        exact ⟨_, _, _, _, _, _, _, _, rfl, rfl, hW⟩
      · rw [if_neg (fun h => m1neg (by rw [← h]; exact nI_pos' (by omega))), if_pos (nI_pos' (by omega))]
        obtain ⟨st', hb1, _, hb3⟩ := hB j hj
        have hbe := at_uniq hb3 hAs
        subst hbe
        obtain ⟨b, n, answ', told', live', any', all', f1, f2, f3, f4⟩ := rule_eq (begins := begins) (done := done) hr hk hcode hw hc hA hP hL hO hj hst hb1 hAs askd asked answ told live any all
        rw [f1, f2, e_bd3, e_bd6]
        have hW' : JW (nI n) answ' (nI n) told' := ⟨n, f3, rfl, rfl, f4⟩
        by_cases h3 : done = 0
        · rw [if_pos h3, if_pos h3]
          cases b with
          | false => exact ⟨_, _, _, _, _, _, _, _, rfl, rfl, hW'⟩
          | true => exact ⟨_, _, _, _, _, _, _, _, rfl, rfl, hW'⟩
        · rw [if_neg h3, if_neg h3]
          by_cases h4 : (done &&& (brd ^^^ (-1))) = 0
          · rw [if_pos h4, if_pos h4]
            exact ⟨_, _, _, _, _, _, _, _, rfl, rfl, hW⟩
          · rw [if_neg h4, if_neg h4]
            cases b with
            | false => exact ⟨_, _, _, _, _, _, _, _, rfl, rfl, hW'⟩
            | true => exact ⟨_, _, _, _, _, _, _, _, rfl, rfl, hW'⟩
    · simp only [gF h2]; exact Or.inl ⟨trivial, _, rfl⟩
  · simp only [gF h1]; exact Or.inl ⟨trivial, _, rfl⟩
