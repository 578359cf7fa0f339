theorem fac_eq {c : Nat → Nat} {r st j k code w : Nat} {done tup tdn psz parts up down lpr pairs : Int32} {rsg pcd pld ljn read begins pc pl joined : Nat → Int32} {pct pv : Nat → Int64} {lful full : Bool} (hr : r ≤ 300) (hk : k ≤ 20) (hcode : code ≤ 999999) (hw : w ≤ 1000000000) (hc : ∀ j, j < r → rsg j = nI (c j) ∧ read j = nI (c j) ∧ c j ≤ 126) (hA : AT c r (0, 0, 0, 0, k)) (hP : JP psz pcd pld pct parts pc pl pv) (hL : JL lpr lful ljn pairs full joined) (hO : JO tup tdn up down) {p dp ct vl rw : Nat} (hp : p < r) (hAp : AT c p (2, dp, ct, vl, rw)) (hlet : c p = 87 ∨ c p = 67 ∨ c p = 72 ∨ c p = 83 ∨ c p = 86 ∨ c p = 80) :
    ∃ b, m_Or_factorHolds (nI p) (nI code) (lN w) done tup tdn (nI r) rsg psz pcd pld pct lful ljn = some b ∧ m_Md_holds (nI p) (nI code) (lN w) parts done full up down read pc pl pv joined = some b := by
  have hcR : ∀ j, j < r → rsg j = nI (c j) ∧ c j ≤ 126 := fun j hj => ⟨(hc j hj).1, (hc j hj).2.2⟩
  have hcM : ∀ j, j < r → read j = nI (c j) ∧ c j ≤ 126 := fun j hj => (hc j hj).2
  have hp1 : p + 1 < r := by
    obtain ⟨s', h1, h2⟩ := at_nx hAp hA hp
    rcases Nat.lt_or_ge (p + 1) r with h | h
    · exact h
    · rw [show p + 1 = r by omega] at h2
      rcases nx_form (ok_at hAp) h1 with ⟨_, h3, _⟩ | ⟨h3, _⟩
      · simp only at h3
        omega
      · rw [at_fun h2 hA] at h3
        exact absurd rfl h3
  have hz : ¬ dig (c (r - 1)) := by rw [at_last hA (by omega)]; unfold dig; omega
  obtain ⟨e, g1, g2, g3⟩ := ndig hz (r - 1 - (p + 1)) (p + 1) (by omega)
  have n1 : m_Rows_numberAt (nI p + 1) (nI r) rsg = some (nI (valf c 0 (p + 1) e)) := by
    unfold m_Rows_numberAt
    rw [nI_1]
    exact numC hr hcR e 2000 0 (p + 1) (by omega) g2 g3 (by omega)
  have n2 : m_Md_numberAt (nI p) read = some (nI (valf c 0 (p + 1) e)) := by
    unfold m_Md_numberAt
    rw [nI_1]
    exact numM hr hcM e 2000 0 (p + 1) (by omega) g2 g3 (by omega)
  unfold m_Or_factorHolds m_Md_holds
  rw [ix_ok (by omega) (by omega), ix_ok (by omega) (by omega), clI (by omega), (hcR p hp).1, (hcM p hp).1]
  have hpsz : (psz = 0) = (parts = 0) := by
    obtain ⟨m, _, h1, h2, _⟩ := hP
    rw [h1, h2]
  rcases hlet with h | h | h | h | h | h <;> rw [h]
  · rw [if_pos li87.symm, if_neg (show ¬ nI 87 = 67 by decide), if_neg (show ¬ nI 87 = 72 by decide), if_neg (show ¬ nI 87 = 83 by decide), if_neg (show ¬ nI 87 = 86 by decide), if_pos li87.symm]
    simp only [hpsz]
    by_cases h0 : parts = 0
    · rw [if_pos h0]; exact ⟨_, rfl, rfl⟩
    · rw [if_neg h0]; exact ⟨_, rfl, rfl⟩
  · rw [if_neg (show ¬ nI 67 = 87 by decide), if_pos li67.symm, if_pos li67.symm]
    obtain ⟨b, k1, k2⟩ := changed_eq hP hL hO hcode hw (d10 := 2) (D := 10000) (by omega) (by decide) (by omega) (by omega)
    rw [← li2] at k1
    rw [← li10000] at k2
    rw [k1, k2]; exact ⟨b, rfl, rfl⟩
  · rw [if_neg (show ¬ nI 72 = 87 by decide), if_neg (show ¬ nI 72 = 67 by decide), if_pos li72.symm, if_neg (show ¬ nI 72 = 67 by decide), if_pos li72.symm]
    obtain ⟨b, k1, k2⟩ := changed_eq hP hL hO hcode hw (d10 := 4) (D := 100) (by omega) (by decide) (by omega) (by omega)
    rw [← li4] at k1
    rw [← li100] at k2
    rw [k1, k2]; exact ⟨b, rfl, rfl⟩
  · rw [if_neg (show ¬ nI 83 = 87 by decide), if_neg (show ¬ nI 83 = 67 by decide), if_neg (show ¬ nI 83 = 72 by decide), if_pos li83.symm, if_neg (show ¬ nI 83 = 67 by decide), if_neg (show ¬ nI 83 = 72 by decide), if_pos li83.symm]
    obtain ⟨b, k1, k2⟩ := changed_eq hP hL hO hcode hw (d10 := 6) (D := 1) (by omega) (by decide) (by omega) (by omega)
    rw [← li6] at k1
    rw [← li1] at k2
    rw [k1, k2]; exact ⟨b, rfl, rfl⟩
  · rw [if_neg (show ¬ nI 86 = 87 by decide), if_neg (show ¬ nI 86 = 67 by decide), if_neg (show ¬ nI 86 = 72 by decide), if_neg (show ¬ nI 86 = 83 by decide), if_neg (show ¬ nI 86 = 67 by decide), if_neg (show ¬ nI 86 = 72 by decide), if_neg (show ¬ nI 86 = 83 by decide), if_pos li86.symm, n1, e_bd1, if_pos li86.symm, n2]
    simp only [e_bd1]
    obtain ⟨b, k1, k2⟩ := within_eq (q := lN w) (r := nI (valf c 0 (p + 1) e)) hP hL
    rw [k1, k2]; exact ⟨b, rfl, rfl⟩
  · rw [if_neg (show ¬ nI 80 = 87 by decide), if_neg (show ¬ nI 80 = 67 by decide), if_neg (show ¬ nI 80 = 72 by decide), if_neg (show ¬ nI 80 = 83 by decide), if_neg (show ¬ nI 80 = 67 by decide), if_neg (show ¬ nI 80 = 72 by decide), if_neg (show ¬ nI 80 = 83 by decide), if_neg (show ¬ nI 80 = 86 by decide), if_neg (show ¬ nI 80 = 87 by decide), n1, e_bd1, if_neg (show ¬ nI 80 = 86 by decide), n2, e_bd1]
    unfold m_Or_hasBit
    split <;> exact ⟨_, rfl, rfl⟩
theorem c_open {c : Nat → Nat} {r st code w : Nat} {done tup tdn psz : Int32} {rsg pcd pld ljn : Nat → Int32} {pct : Nat → Int64} {lful : Bool} (hr : r ≤ 300) (hc : ∀ j, j < r → rsg j = nI (c j) ∧ c j ≤ 126) {n t p : Nat} {held skip : Bool} {Q : Int32} {answ : Nat → Int32} (hp : p < r) (hne : c p ≠ 59) :
    k_Or_ruleHolds_17 done tup tdn (nI r) rsg psz pcd pld pct lful ljn (nI st) (nI code) (lN w) (n + 1) held skip (nI t) (nI p) Q answ = (
    if (bI skip) = 0 then (
    bd1 (m_Or_isLetter (nI (c p))) (fun r_119 =>
    if (bI r_119) = 0 then (
    if c p = 38 then (
    if (bI held) = 0 then (
    k_Or_ruleHolds_17 done tup tdn (nI r) rsg psz pcd pld pct lful ljn (nI st) (nI code) (lN w) n held true (nI t) (nI (p + 1)) Q answ)
    else (
    k_Or_ruleHolds_160 done tup tdn (nI r) rsg psz pcd pld pct lful ljn (nI st) (nI code) (lN w) (k_Or_ruleHolds_17 done tup tdn (nI r) rsg psz pcd pld pct lful ljn (nI st) (nI code) (lN w) n)  held skip (nI t) (nI p) (nI (c p)) Q answ))
    else (
    k_Or_ruleHolds_160 done tup tdn (nI r) rsg psz pcd pld pct lful ljn (nI st) (nI code) (lN w) (k_Or_ruleHolds_17 done tup tdn (nI r) rsg psz pcd pld pct lful ljn (nI st) (nI code) (lN w) n)  held skip (nI t) (nI p) (nI (c p)) Q answ))
    else (
    bd1 (m_Or_factorHolds (nI p) (nI code) (lN w) done tup tdn (nI r) rsg psz pcd pld pct lful ljn) (fun r_130 =>
    bd2 (m_Or_keepAnswer (nI p - nI st) r_130 Q answ) (fun askd_142 answ_142 =>
    k_Or_ruleHolds_17 done tup tdn (nI r) rsg psz pcd pld pct lful ljn (nI st) (nI code) (lN w) n r_130 skip (nI t) (nI (p + 1)) askd_142 answ_142)))))
    else (
    if nI t = 0 then (
    if c p = 41 then (
    k_Or_ruleHolds_17 done tup tdn (nI r) rsg psz pcd pld pct lful ljn (nI st) (nI code) (lN w) n held false (nI t) (nI (p + 1)) Q answ)
    else (
    if c p = 124 then (
    if (bI held) = 0 then (
    k_Or_ruleHolds_17 done tup tdn (nI r) rsg psz pcd pld pct lful ljn (nI st) (nI code) (lN w) n held false (nI t) (nI (p + 1)) Q answ)
    else (
    k_Or_ruleHolds_91 done tup tdn (nI r) rsg psz pcd pld pct lful ljn (nI st) (nI code) (lN w) (k_Or_ruleHolds_17 done tup tdn (nI r) rsg psz pcd pld pct lful ljn (nI st) (nI code) (lN w) n)  held skip (nI t) (nI p) (nI (c p)) Q answ))
    else (
    k_Or_ruleHolds_91 done tup tdn (nI r) rsg psz pcd pld pct lful ljn (nI st) (nI code) (lN w) (k_Or_ruleHolds_17 done tup tdn (nI r) rsg psz pcd pld pct lful ljn (nI st) (nI code) (lN w) n)  held skip (nI t) (nI p) (nI (c p)) Q answ)))
    else (
    k_Or_ruleHolds_91 done tup tdn (nI r) rsg psz pcd pld pct lful ljn (nI st) (nI code) (lN w) (k_Or_ruleHolds_17 done tup tdn (nI r) rsg psz pcd pld pct lful ljn (nI st) (nI code) (lN w) n)  held skip (nI t) (nI p) (nI (c p)) Q answ))) := by
  obtain ⟨e1, e2⟩ := hc p hp
  rw [k_Or_ruleHolds_17_s, if_neg (by rw [i_le (by omega) (by omega)]; omega), ix_ok (by omega) (by omega), ix_ok (by omega) (by omega), clI (by omega), e1, li59, li38, li41, li124]
  simp only [i_eq (show c p < 2 ^ 31 by omega) (show 59 < 2 ^ 31 by omega), i_eq (show c p < 2 ^ 31 by omega) (show 38 < 2 ^ 31 by omega), i_eq (show c p < 2 ^ 31 by omega) (show 41 < 2 ^ 31 by omega), i_eq (show c p < 2 ^ 31 by omega) (show 124 < 2 ^ 31 by omega), nI_1]
  rw [if_neg hne]
theorem c_160 {r st code w : Nat} {done tup tdn psz : Int32} {rsg pcd pld ljn : Nat → Int32} {pct : Nat → Int64} {lful : Bool} {K : Bool → Bool → Int32 → Int32 → Int32 → (Nat → Int32) → Option (Bool × Int32 × (Nat → Int32))} {t p ch : Nat} {held skip : Bool} {Q : Int32} {answ : Nat → Int32} (hch : ch < 2 ^ 31) :
    k_Or_ruleHolds_160 done tup tdn (nI r) rsg psz pcd pld pct lful ljn (nI st) (nI code) (lN w) K held skip (nI t) (nI p) (nI ch) Q answ = (if ch = 124 then (if bI held = 0 then K held skip (nI t) (nI (p + 1)) Q answ else K held true (nI t) (nI (p + 1)) Q answ) else K held skip (nI t) (nI (p + 1)) Q answ) := by
  unfold k_Or_ruleHolds_160
  rw [li124, nI_1]
  simp only [i_eq hch (show 124 < 2 ^ 31 by omega)]
theorem c_91 {r st code w : Nat} {done tup tdn psz : Int32} {rsg pcd pld ljn : Nat → Int32} {pct : Nat → Int64} {lful : Bool} {K : Bool → Bool → Int32 → Int32 → Int32 → (Nat → Int32) → Option (Bool × Int32 × (Nat → Int32))} {t p ch : Nat} {held skip : Bool} {Q : Int32} {answ : Nat → Int32} (hch : ch < 2 ^ 31) :
    k_Or_ruleHolds_91 done tup tdn (nI r) rsg psz pcd pld pct lful ljn (nI st) (nI code) (lN w) K held skip (nI t) (nI p) (nI ch) Q answ = (if ch = 40 then K held skip (nI (t + 1)) (nI (p + 1)) Q answ else if ch = 41 then K held skip (nI t + (-1)) (nI (p + 1)) Q answ else K held skip (nI t) (nI (p + 1)) Q answ) := by
  unfold k_Or_ruleHolds_91
  rw [li40, li41, nI_1, nI_1]
  simp only [i_eq hch (show 40 < 2 ^ 31 by omega), i_eq hch (show 41 < 2 ^ 31 by omega)]
theorem c_same {c : Nat → Nat} {r st code w : Nat} {done tup tdn psz : Int32} {rsg pcd pld ljn : Nat → Int32} {pct : Nat → Int64} {lful : Bool} (hr : r ≤ 300) (hc : ∀ j, j < r → rsg j = nI (c j) ∧ c j ≤ 126) {n p : Nat} {held : Bool} {Q : Int32} {answ : Nat → Int32} (hp : p < r) (h1 : c p ≠ 59) (h2 : c p ≠ 38) (h3 : c p ≠ 124) (h4 : ¬ (65 ≤ c p ∧ c p ≤ 90)) :
    k_Or_ruleHolds_17 done tup tdn (nI r) rsg psz pcd pld pct lful ljn (nI st) (nI code) (lN w) (n + 1) held false (nI 0) (nI p) Q answ = k_Or_ruleHolds_17 done tup tdn (nI r) rsg psz pcd pld pct lful ljn (nI st) (nI code) (lN w) n held false (nI 0) (nI (p + 1)) Q answ := by
  have e2 := (hc p hp).2
  rw [c_open hr hc hp h1, gf, or_let (by omega), e_bd1, gF h4, if_neg h2, c_160 (by omega), if_neg h3]
theorem c_and {c : Nat → Nat} {r st code w : Nat} {done tup tdn psz : Int32} {rsg pcd pld ljn : Nat → Int32} {pct : Nat → Int64} {lful : Bool} (hr : r ≤ 300) (hc : ∀ j, j < r → rsg j = nI (c j) ∧ c j ≤ 126) {n p : Nat} {held : Bool} {Q : Int32} {answ : Nat → Int32} (hp : p < r) (h1 : c p = 38) :
    k_Or_ruleHolds_17 done tup tdn (nI r) rsg psz pcd pld pct lful ljn (nI st) (nI code) (lN w) (n + 1) held false (nI 0) (nI p) Q answ = k_Or_ruleHolds_17 done tup tdn (nI r) rsg psz pcd pld pct lful ljn (nI st) (nI code) (lN w) n held (!held) (nI 0) (nI (p + 1)) Q answ := by
  have e2 := (hc p hp).2
  rw [c_open hr hc hp (by omega), gf, or_let (by omega), e_bd1, gF (by omega), if_pos h1]
  cases held with
  | false => rw [gf]; rfl
  | true => rw [gt, c_160 (by omega), if_neg (by omega)]; rfl
theorem c_orr {c : Nat → Nat} {r st code w : Nat} {done tup tdn psz : Int32} {rsg pcd pld ljn : Nat → Int32} {pct : Nat → Int64} {lful : Bool} (hr : r ≤ 300) (hc : ∀ j, j < r → rsg j = nI (c j) ∧ c j ≤ 126) {n p : Nat} {held : Bool} {Q : Int32} {answ : Nat → Int32} (hp : p < r) (h1 : c p = 124) :
    k_Or_ruleHolds_17 done tup tdn (nI r) rsg psz pcd pld pct lful ljn (nI st) (nI code) (lN w) (n + 1) held false (nI 0) (nI p) Q answ = k_Or_ruleHolds_17 done tup tdn (nI r) rsg psz pcd pld pct lful ljn (nI st) (nI code) (lN w) n held held (nI 0) (nI (p + 1)) Q answ := by
  have e2 := (hc p hp).2
  rw [c_open hr hc hp (by omega), gf, or_let (by omega), e_bd1, gF (by omega), if_neg (by omega), c_160 (by omega), if_pos h1]
  cases held with
  | false => rw [gf]
  | true => rw [gt]
theorem c_let {c : Nat → Nat} {r st code w : Nat} {done tup tdn psz : Int32} {rsg pcd pld ljn : Nat → Int32} {pct : Nat → Int64} {lful : Bool} (hr : r ≤ 300) (hc : ∀ j, j < r → rsg j = nI (c j) ∧ c j ≤ 126) {n p q : Nat} {held b : Bool} {answ : Nat → Int32} (hp : p < r) (h1 : 65 ≤ c p ∧ c p ≤ 90) (hq : q < 149) (hb : m_Or_factorHolds (nI p) (nI code) (lN w) done tup tdn (nI r) rsg psz pcd pld pct lful ljn = some b) :
    k_Or_ruleHolds_17 done tup tdn (nI r) rsg psz pcd pld pct lful ljn (nI st) (nI code) (lN w) (n + 1) held false (nI 0) (nI p) (nI q) answ = k_Or_ruleHolds_17 done tup tdn (nI r) rsg psz pcd pld pct lful ljn (nI st) (nI code) (lN w) n b false (nI 0) (nI (p + 1)) (nI (q + 1)) (upd answ q (2 * (nI p - nI st) + bI b)) := by
  have e2 := (hc p hp).2
  rw [c_open hr hc hp (by omega), gf, or_let (by omega), e_bd1, gT h1, hb, e_bd1]
  unfold m_Or_keepAnswer k_Or_keepAnswer_30
  rw [if_neg (by rw [li149, i_le (by omega) (by omega)]; omega), ix_ok (by omega) (by omega), ix_ok (by omega) (by omega), clI (by omega), nI_1]
  cases b with
  | false => rw [gf, e_bd2]
  | true => rw [gt, e_bd2]
theorem c_skip {c : Nat → Nat} {r st code w : Nat} {done tup tdn psz : Int32} {rsg pcd pld ljn : Nat → Int32} {pct : Nat → Int64} {lful : Bool} (hr : r ≤ 300) (hc : ∀ j, j < r → rsg j = nI (c j) ∧ c j ≤ 126) {n p t : Nat} {held : Bool} {Q : Int32} {answ : Nat → Int32} (hp : p < r) (ht : t < 2 ^ 31) (h1 : c p ≠ 59) (h2 : t = 0 → c p ≠ 41) (h3 : t = 0 → held = false → c p ≠ 124) :
    k_Or_ruleHolds_17 done tup tdn (nI r) rsg psz pcd pld pct lful ljn (nI st) (nI code) (lN w) (n + 1) held true (nI t) (nI p) Q answ = k_Or_ruleHolds_17 done tup tdn (nI r) rsg psz pcd pld pct lful ljn (nI st) (nI code) (lN w) n held true (nI (if c p = 40 then t + 1 else if c p = 41 then t - 1 else t)) (nI (p + 1)) Q answ := by
  have e2 := (hc p hp).2
  rw [c_open hr hc hp h1, gt, c_91 (by omega)]
  simp only [show (nI t = 0) = (t = 0) from i_eq (b := 0) ht (by omega)]
  by_cases h0 : t = 0
  · subst h0
    rw [if_pos rfl, if_neg (h2 rfl), if_neg (h2 rfl), if_neg (h2 rfl)]
    by_cases h4 : c p = 40
    · rw [if_pos h4, if_pos h4, if_neg (by omega)]
    · rw [if_neg h4, if_neg h4]
      by_cases h5 : c p = 124
      · rw [if_pos h5]
        cases held with
        | false => exact absurd h5 (h3 rfl rfl)
        | true => rw [gt]
      · rw [if_neg h5]
  · rw [if_neg h0]
    by_cases h4 : c p = 40
    · rw [if_pos h4, if_pos h4]
    · rw [if_neg h4, if_neg h4]
      by_cases h5 : c p = 41
      · rw [if_pos h5, if_pos h5, sb_m1 (by omega)]
      · rw [if_neg h5, if_neg h5]
theorem c_un {c : Nat → Nat} {r st code w : Nat} {done tup tdn psz : Int32} {rsg pcd pld ljn : Nat → Int32} {pct : Nat → Int64} {lful : Bool} (hr : r ≤ 300) (hc : ∀ j, j < r → rsg j = nI (c j) ∧ c j ≤ 126) {n p : Nat} {held : Bool} {Q : Int32} {answ : Nat → Int32} (hp : p < r) (h1 : c p = 41 ∨ (c p = 124 ∧ held = false)) :
    k_Or_ruleHolds_17 done tup tdn (nI r) rsg psz pcd pld pct lful ljn (nI st) (nI code) (lN w) (n + 1) held true (nI 0) (nI p) Q answ = k_Or_ruleHolds_17 done tup tdn (nI r) rsg psz pcd pld pct lful ljn (nI st) (nI code) (lN w) n held false (nI 0) (nI (p + 1)) Q answ := by
  have e2 := (hc p hp).2
  rw [c_open hr hc hp (by omega), gt, if_pos li0.symm]
  rcases h1 with h1 | ⟨h1, h2⟩
  · rw [if_pos h1]
  · subst h2
    rw [if_neg (by omega), if_pos h1, gf]
theorem m_open {c : Nat → Nat} {r j code w : Nat} {parts done up down : Int32} {full : Bool} {read begins pc pl joined : Nat → Int32} {pv : Nat → Int64} (hr : r ≤ 300) (hc : ∀ j, j < r → read j = nI (c j) ∧ c j ≤ 126) {n p dp : Nat} {Q : Int32} {told live any all : Nat → Int32} (hp : p < r) (hne : c p ≠ 59) (hdp : dp ≤ 8) :
    k_Md_ruled_61 parts done full up down read begins pc pl pv joined (nI j) (nI code) (lN w) (n + 1) (nI dp) (nI p) Q told live any all = k_Md_ruled_117 parts done full up down read begins pc pl pv joined (nI j) (nI code) (lN w) (k_Md_ruled_61 parts done full up down read begins pc pl pv joined (nI j) (nI code) (lN w) n) (nI dp) (nI p) (nI (c p)) (decide (¬ live dp = 0 ∧ any dp = 0 ∧ ¬ all dp = 0)) Q told live any all := by
  obtain ⟨e1, e2⟩ := hc p hp
  rw [k_Md_ruled_61_s, ix_ok (by omega) (by omega), clI (by omega), clI (by omega), e1, li59, if_neg (by rw [i_eq (by omega) (by omega)]; exact hne)]
  unfold k_Md_ruled_116
  simp (disch := omega) only [ix_ok]
  by_cases h1 : live dp = 0
  · rw [if_pos h1, decide_eq_false (fun h => h.1 h1)]
  · rw [if_neg h1]
    by_cases h2 : any dp = 0
    · rw [if_pos h2]
      by_cases h3 : all dp = 0
      · rw [if_pos h3, decide_eq_false (fun h => h.2.2 h3)]
      · rw [if_neg h3, decide_eq_true ⟨h1, h2, h3⟩]
    · rw [if_neg h2, decide_eq_false (fun h => h2 h.2.1)]
theorem m_push {j code w : Nat} {parts done up down : Int32} {full : Bool} {read begins pc pl joined : Nat → Int32} {pv : Nat → Int64} {K : Int32 → Int32 → Int32 → (Nat → Int32) → (Nat → Int32) → (Nat → Int32) → (Nat → Int32) → Option (Bool × Int32 × (Nat → Int32) × (Nat → Int32) × (Nat → Int32) × (Nat → Int32))} {p dp : Nat} {s0 : Bool} {Q : Int32} {told live any all : Nat → Int32} (hdp : dp < 8) :
    k_Md_ruled_117 parts done full up down read begins pc pl pv joined (nI j) (nI code) (lN w) K (nI dp) (nI p) (nI 40) s0 Q told live any all = K (nI (dp + 1)) (nI (p + 1)) Q told (upd live (dp + 1) (bI s0)) (upd any (dp + 1) 0) (upd all (dp + 1) 1) := by
  unfold k_Md_ruled_117
  rw [if_pos li40.symm, nI_1, nI_1, ix_ok (by omega) (by omega), ix_ok (by omega) (by omega), ix_ok (by omega) (by omega), clI (by omega), vn_b, vn_t, vn_f]
theorem m_pop {j code w : Nat} {parts done up down : Int32} {full : Bool} {read begins pc pl joined : Nat → Int32} {pv : Nat → Int64} {K : Int32 → Int32 → Int32 → (Nat → Int32) → (Nat → Int32) → (Nat → Int32) → (Nat → Int32) → Option (Bool × Int32 × (Nat → Int32) × (Nat → Int32) × (Nat → Int32) × (Nat → Int32))} {p dp : Nat} {s0 : Bool} {Q : Int32} {told live any all : Nat → Int32} (hdp : dp < 8) :
    k_Md_ruled_117 parts done full up down read begins pc pl pv joined (nI j) (nI code) (lN w) K (nI (dp + 1)) (nI p) (nI 41) s0 Q told live any all = (if live (dp + 1) = 0 then K (nI dp) (nI (p + 1)) Q told live any (upd all dp (vp_nar .boolean (all dp))) else if any (dp + 1) = 0 then (if all (dp + 1) = 0 then K (nI dp) (nI (p + 1)) Q told live any (upd all dp 0) else K (nI dp) (nI (p + 1)) Q told live any (upd all dp 1)) else K (nI dp) (nI (p + 1)) Q told live any (upd all dp 1)) := by
  unfold k_Md_ruled_117
  rw [if_neg (show ¬ nI 41 = 40 by decide), if_pos li41.symm, pk_m1, nI_1, nI_1]
  simp (disch := omega) only [ix_ok, clI, vn_t, vn_f]
theorem m_bar {j code w : Nat} {parts done up down : Int32} {full : Bool} {read begins pc pl joined : Nat → Int32} {pv : Nat → Int64} {K : Int32 → Int32 → Int32 → (Nat → Int32) → (Nat → Int32) → (Nat → Int32) → (Nat → Int32) → Option (Bool × Int32 × (Nat → Int32) × (Nat → Int32) × (Nat → Int32) × (Nat → Int32))} {p dp : Nat} {s0 : Bool} {Q : Int32} {told live any all : Nat → Int32} (hdp : dp ≤ 8) :
    k_Md_ruled_117 parts done full up down read begins pc pl pv joined (nI j) (nI code) (lN w) K (nI dp) (nI p) (nI 124) s0 Q told live any all = (if any dp = 0 then (if all dp = 0 then K (nI dp) (nI (p + 1)) Q told live (upd any dp 0) (upd all dp 1) else K (nI dp) (nI (p + 1)) Q told live (upd any dp 1) (upd all dp 1)) else K (nI dp) (nI (p + 1)) Q told live (upd any dp 1) (upd all dp 1)) := by
  unfold k_Md_ruled_117 k_Md_ruled_261 k_Md_ruled_266
  rw [if_neg (show ¬ nI 124 = 40 by decide), if_neg (show ¬ nI 124 = 41 by decide), if_pos li124.symm, nI_1]
  simp (disch := omega) only [ix_ok, clI, vn_t, vn_b]
  rfl
theorem m_same {j code w : Nat} {parts done up down : Int32} {full : Bool} {read begins pc pl joined : Nat → Int32} {pv : Nat → Int64} {K : Int32 → Int32 → Int32 → (Nat → Int32) → (Nat → Int32) → (Nat → Int32) → (Nat → Int32) → Option (Bool × Int32 × (Nat → Int32) × (Nat → Int32) × (Nat → Int32) × (Nat → Int32))} {p dp ch : Nat} {s0 : Bool} {Q : Int32} {told live any all : Nat → Int32} (hch : ch < 2 ^ 31) (h1 : ch ≠ 40) (h2 : ch ≠ 41) (h3 : ch ≠ 124) (h4 : s0 = false ∨ ch = 38 ∨ (48 ≤ ch ∧ ch ≤ 57)) :
    k_Md_ruled_117 parts done full up down read begins pc pl pv joined (nI j) (nI code) (lN w) K (nI dp) (nI p) (nI ch) s0 Q told live any all = K (nI dp) (nI (p + 1)) Q told live any all := by
  unfold k_Md_ruled_117
  rw [li40, li41, li124, li38]
  simp only [i_eq hch (show 40 < 2 ^ 31 by omega), i_eq hch (show 41 < 2 ^ 31 by omega), i_eq hch (show 124 < 2 ^ 31 by omega), i_eq hch (show 38 < 2 ^ 31 by omega), nI_1]
  rw [if_neg h1, if_neg h2, if_neg h3]
  cases s0 with
  | false => rw [gf]
  | true =>
    rw [gt]
    by_cases h5 : ch = 38
    · rw [if_pos h5]
    · rw [if_neg h5, md_dig hch, e_bd1, gT (by rcases h4 with h | h | h; · cases h
                                               · exact absurd h h5
                                               · exact h)]
theorem m_let {j code w : Nat} {parts done up down : Int32} {full : Bool} {read begins pc pl joined : Nat → Int32} {pv : Nat → Int64} {K : Int32 → Int32 → Int32 → (Nat → Int32) → (Nat → Int32) → (Nat → Int32) → (Nat → Int32) → Option (Bool × Int32 × (Nat → Int32) × (Nat → Int32) × (Nat → Int32) × (Nat → Int32))} {p dp ch q : Nat} {b : Bool} {told live any all : Nat → Int32} (hch : ch < 2 ^ 31) (h1 : 65 ≤ ch ∧ ch ≤ 90) (hdp : dp ≤ 8) (hj : j < 20) (hq : q < 149) (hb : m_Md_holds (nI p) (nI code) (lN w) parts done full up down read pc pl pv joined = some b) :
    k_Md_ruled_117 parts done full up down read begins pc pl pv joined (nI j) (nI code) (lN w) K (nI dp) (nI p) (nI ch) true (nI q) told live any all = K (nI dp) (nI (p + 1)) (nI (q + 1)) (upd told q (2 * (nI p - begins j) + bI b)) live any (upd all dp (bI b)) := by
  unfold k_Md_ruled_117 k_Md_ruled_347
  rw [li40, li41, li124, li38]
  simp only [i_eq hch (show 40 < 2 ^ 31 by omega), i_eq hch (show 41 < 2 ^ 31 by omega), i_eq hch (show 124 < 2 ^ 31 by omega), i_eq hch (show 38 < 2 ^ 31 by omega), nI_1]
  rw [if_neg (by omega), if_neg (by omega), if_neg (by omega), gt, if_neg (by omega), md_dig hch, e_bd1, gF (by omega), hb, e_bd1]
  simp (disch := omega) only [ix_ok, clI, vn_b, pk_us]
  cases b with
  | false => rw [if_pos (by rfl)]
  | true => rw [if_neg (by decide)]
def EV (md dp t : Nat) (held skip : Bool) (live any all : Nat → Int32) : Prop :=
  (skip = false ∧ t = 0 ∧ (∀ i, i ≤ dp → live i = 1 ∧ any i = 0) ∧ (∀ i, i < dp → all i = 1) ∧ (md = 2 → all dp = 1) ∧ (md ≠ 2 → all dp = bI held)) ∨
  (skip = true ∧ ∃ B, B + t = dp ∧ (∀ i, i ≤ B → live i = 1) ∧ (∀ i, i < B → any i = 0 ∧ all i = 1) ∧ (held = true → any B = 1) ∧ (held = false → any B = 0 ∧ all B = 0) ∧ (∀ i, B < i → i ≤ dp → live i = 0))
def FIN (oc : Option (Bool × Int32 × (Nat → Int32))) (om : Option (Bool × Int32 × (Nat → Int32) × (Nat → Int32) × (Nat → Int32) × (Nat → Int32))) : Prop := ∃ b q answ' told' live' any' all', oc = some (b, nI q, answ') ∧ om = some (b, nI q, told', live', any', all') ∧ q ≤ 149 ∧ ∀ i, i < q → told' i = answ' i
theorem one_ne : ¬ (1 : Int32) = 0 := by decide
theorem ev_s0 {md dp t : Nat} {held skip : Bool} {live any all : Nat → Int32} (h : EV md dp t held skip live any all) (hs : skip = true) : decide (¬ live dp = 0 ∧ any dp = 0 ∧ ¬ all dp = 0) = false := by
  apply decide_eq_false
  rintro ⟨h1, h2, h3⟩
  rcases h with ⟨h4, _⟩ | ⟨_, B, g1, g2, g3, g4, g5, g6⟩
  · rw [hs] at h4; cases h4
  · by_cases ht : t = 0
    · have hB : B = dp := by omega
      subst hB
      cases held with
      | true => rw [g4 rfl] at h2; exact one_ne h2
      | false => exact h3 (g5 rfl).2
    · exact h1 (g6 dp (by omega) (Nat.le_refl _))
theorem rule_sim {c : Nat → Nat} {r st j k code w : Nat} {done tup tdn psz parts up down lpr pairs : Int32} {rsg pcd pld ljn read begins pc pl joined : Nat → Int32} {pct pv : Nat → Int64} {lful full : Bool} (hr : r ≤ 300) (hk : k ≤ 20) (hcode : code ≤ 999999) (hw : w ≤ 1000000000) (hc : ∀ j, j < r → rsg j = nI (c j) ∧ read j = nI (c j) ∧ c j ≤ 126) (hA : AT c r (0, 0, 0, 0, k)) (hP : JP psz pcd pld pct parts pc pl pv) (hL : JL lpr lful ljn pairs full joined) (hO : JO tup tdn up down) (hj : j < k) (hst : st < r) (hbg : begins j = nI st) :
    ∀ (d n n' p q t : Nat) (s : S5) (held skip : Bool) (answ told live any all : Nat → Int32), p + d = r → d < n → d < n' → AT c p s → 2 ≤ s.1 → EV s.1 s.2.1 t held skip live any all → (s.1 = 2 → 2 * q + 2 + st ≤ p) → (s.1 ≠ 2 → 2 * q + 1 + st ≤ p) → (∀ i, i < q → told i = answ i) →
    FIN (k_Or_ruleHolds_17 done tup tdn (nI r) rsg psz pcd pld pct lful ljn (nI st) (nI code) (lN w) n held skip (nI t) (nI p) (nI q) answ) (k_Md_ruled_61 parts done full up down read begins pc pl pv joined (nI j) (nI code) (lN w) n' (nI s.2.1) (nI p) (nI q) told live any all) := by
  have hcR : ∀ j, j < r → rsg j = nI (c j) ∧ c j ≤ 126 := fun j hj => ⟨(hc j hj).1, (hc j hj).2.2⟩
  have hcM : ∀ j, j < r → read j = nI (c j) ∧ c j ≤ 126 := fun j hj => (hc j hj).2
  intro d
  induction d with
  | zero =>
    intro n n' p q t s held skip answ told live any all hp hn hn' hAp h2 _ _ _ _
    rw [show p = r by omega] at hAp
    rw [at_fun hAp hA] at h2
    simp only at h2
    omega
  | succ d ih =>
    intro n n' p q t s held skip answ told live any all hp hn hn' hAp h2 hE hq2 hq3 hT
    obtain ⟨n, rfl⟩ : ∃ k, n = k + 1 := ⟨n - 1, by omega⟩
    obtain ⟨n', rfl⟩ : ∃ k, n' = k + 1 := ⟨n' - 1, by omega⟩
    have hpr : p < r := by omega
    obtain ⟨s', hnx, hAp'⟩ := at_nx hAp hA hpr
    obtain ⟨md, dp, ct, vl, rw⟩ := s
    have hs := ok_un (ok_at hAp)
    have hcp := (hcR p hpr).2
    simp only at h2 hE hq2 hq3
    simp only
    have hmd : md = 2 ∨ 3 ≤ md := by omega
    rcases hmd with rfl | hmd
    · have hq := hq2 rfl
      rw [nx2] at hnx
      have h59 : c p ≠ 59 := by rcases ahd_some hnx with ⟨_, h⟩ | ⟨_, h⟩ | ⟨_, h⟩ | ⟨_, h⟩ <;> omega
      rw [m_open hr hcM hpr h59 (by omega)]
      have letter : (c p = 87 ∨ c p = 67 ∨ c p = 72 ∨ c p = 83 ∨ c p = 86 ∨ c p = 80) → s'.1 ≠ 2 → 2 ≤ s'.1 → s'.2.1 = dp → FIN (k_Or_ruleHolds_17 done tup tdn (nI r) rsg psz pcd pld pct lful ljn (nI st) (nI code) (lN w) (n + 1) held skip (nI t) (nI p) (nI q) answ) (k_Md_ruled_117 parts done full up down read begins pc pl pv joined (nI j) (nI code) (lN w) (k_Md_ruled_61 parts done full up down read begins pc pl pv joined (nI j) (nI code) (lN w) n') (nI dp) (nI p) (nI (c p)) (decide (¬ live dp = 0 ∧ any dp = 0 ∧ ¬ all dp = 0)) (nI q) told live any all) := by
        intro hlet hs1 hs2 hs3
        cases skip with
        | true =>
          rw [ev_s0 hE rfl, m_same (by omega) (by omega) (by omega) (by omega) (Or.inl rfl)]
          have ht8 : t ≤ 8 := by
            rcases hE with ⟨h, _⟩ | ⟨_, B, g1, _⟩
            · cases h
            · omega
          rw [c_skip hr hcR hpr (by omega) h59 (by omega) (by omega), if_neg (by omega), if_neg (by omega)]
          have := ih n n' (p + 1) q t s' held true answ told live any all (by omega) (by omega) (by omega) hAp' hs2 (by
            rw [hs3]
            rcases hE with ⟨h, _⟩ | h
            · cases h
            · exact Or.inr h) (fun h => absurd h hs1) (fun _ => by omega) hT
          rw [hs3] at this
          exact this
        | false =>
          rcases hE with ⟨_, ht, g1, g2, g3, g4⟩ | ⟨h, _⟩
          · subst ht
            obtain ⟨b, b1, b2⟩ := fac_eq (st := st) (j := j) (begins := begins) (done := done) hr hk hcode hw hc hA hP hL hO hpr hAp hlet
            rw [decide_eq_true ⟨by rw [(g1 dp (Nat.le_refl _)).1]; exact one_ne, (g1 dp (Nat.le_refl _)).2, by rw [g3 rfl]; exact one_ne⟩]
            rw [c_let hr hcR hpr (by omega) (by omega) b1, m_let (by omega) (by omega) (by omega) (by omega) (by omega) b2]
            have := ih n n' (p + 1) (q + 1) 0 s' b false (upd answ q (2 * (nI p - nI st) + bI b)) (upd told q (2 * (nI p - begins j) + bI b)) live any (upd all dp (bI b)) (by omega) (by omega) (by omega) hAp' hs2 (by
              rw [hs3]
              refine Or.inl ⟨rfl, rfl, g1, fun i hi => by rw [pk_un (by omega)]; exact g2 i hi, fun h => absurd h hs1, fun _ => pk_us⟩) (fun h => absurd h hs1) (fun _ => by omega) (fun i hi => by
              by_cases hiq : i = q
              · subst hiq; rw [pk_us, pk_us, hbg]
              · rw [pk_un hiq, pk_un hiq]; exact hT i (by omega))
            rw [hs3] at this
            exact this
          · cases h
      rcases ahd_some hnx with ⟨e, h⟩ | ⟨e, h⟩ | ⟨e, h⟩ | ⟨e, h⟩
      · exact letter (by omega) (by rw [e]; simp) (by rw [e]; simp) (by rw [e])
      · exact letter (by omega) (by rw [e]; simp) (by rw [e]; simp) (by rw [e])
      · exact letter (by omega) (by rw [e]; simp) (by rw [e]; simp) (by rw [e])
      · subst e
        rw [show nI (c p) = nI 40 by rw [h.1], m_push (by omega)]
        cases skip with
        | true =>
          rw [ev_s0 hE rfl]
          rcases hE with ⟨h', _⟩ | ⟨_, B, g1, g2, g3, g4, g5, g6⟩
          · cases h'
          · rw [c_skip hr hcR hpr (by omega) h59 (by omega) (by omega), if_pos h.1]
            refine ih n n' (p + 1) q (t + 1) _ held true answ told _ _ _ (by omega) (by omega) (by omega) hAp' (by simp) ?_ (fun _ => by omega) (fun h => absurd rfl h) hT
            refine Or.inr ⟨rfl, B, by simp only; omega, fun i hi => ?_, fun i hi => ?_, fun hh => ?_, fun hh => ?_, fun i hi1 hi2 => ?_⟩
            · rw [pk_un (by omega)]; exact g2 i hi
            · rw [pk_un (by omega), pk_un (by omega)]; exact g3 i hi
            · rw [pk_un (by omega)]; exact g4 hh
            · rw [pk_un (by omega), pk_un (by omega)]; exact g5 hh
            · by_cases hid : i = dp + 1
              · subst hid; rw [pk_us]; rfl
              · rw [pk_un hid]; exact g6 i hi1 (by simp only at hi2; omega)
        | false =>
          rcases hE with ⟨_, ht, g1, g2, g3, g4⟩ | ⟨h', _⟩
          · subst ht
            rw [decide_eq_true ⟨by rw [(g1 dp (Nat.le_refl _)).1]; exact one_ne, (g1 dp (Nat.le_refl _)).2, by rw [g3 rfl]; exact one_ne⟩]
            rw [c_same hr hcR hpr (by omega) (by omega) (by omega) (by omega)]
            refine ih n n' (p + 1) q 0 _ held false answ told _ _ _ (by omega) (by omega) (by omega) hAp' (by simp) ?_ (fun _ => by omega) (fun h => absurd rfl h) hT
            refine Or.inl ⟨rfl, rfl, fun i hi => ?_, fun i hi => ?_, fun _ => pk_us, fun h => absurd rfl h⟩
            · by_cases hid : i = dp + 1
              · subst hid; rw [pk_us, pk_us]; exact ⟨rfl, rfl⟩
              · rw [pk_un hid, pk_un hid]; exact g1 i (by simp only at hi; omega)
            · simp only at hi
              rw [pk_un (by omega)]
              by_cases hid : i = dp
              · subst hid; exact g3 rfl
              · exact g2 i (by omega)
          · cases h'
    · have hq := hq3 (by omega)
      have same : (48 ≤ c p ∧ c p ≤ 57) → s'.1 = md → s'.2.1 = dp → FIN (k_Or_ruleHolds_17 done tup tdn (nI r) rsg psz pcd pld pct lful ljn (nI st) (nI code) (lN w) (n + 1) held skip (nI t) (nI p) (nI q) answ) (k_Md_ruled_61 parts done full up down read begins pc pl pv joined (nI j) (nI code) (lN w) (n' + 1) (nI dp) (nI p) (nI q) told live any all) := by
        intro hdg hs1 hs3
        rw [m_open hr hcM hpr (by omega) (by omega), m_same (by omega) (by omega) (by omega) (by omega) (Or.inr (Or.inr hdg))]
        have hE' : EV s'.1 s'.2.1 t held skip live any all := by rw [hs1, hs3]; exact hE
        have := ih n n' (p + 1) q t s' held skip answ told live any all (by omega) (by omega) (by omega) hAp' (by omega) hE' (fun h => absurd h (by omega)) (fun _ => by omega) hT
        rw [hs3] at this
        cases skip with
        | true =>
          have ht8 : t ≤ 8 := by
            rcases hE with ⟨h, _⟩ | ⟨_, B, g1, _⟩
            · cases h
            · omega
          rw [c_skip hr hcR hpr (by omega) (by omega) (by omega) (by omega), if_neg (by omega), if_neg (by omega)]
          exact this
        | false =>
          rcases hE with ⟨_, ht, _⟩ | ⟨h, _⟩
          · subst ht
            rw [c_same hr hcR hpr (by omega) (by omega) (by omega) (by omega)]
            exact this
          · cases h
      have hbh : bh (c p) dp rw = some s' → FIN (k_Or_ruleHolds_17 done tup tdn (nI r) rsg psz pcd pld pct lful ljn (nI st) (nI code) (lN w) (n + 1) held skip (nI t) (nI p) (nI q) answ) (k_Md_ruled_61 parts done full up down read begins pc pl pv joined (nI j) (nI code) (lN w) (n' + 1) (nI dp) (nI p) (nI q) told live any all) := by
        intro hb'
        rcases bh_some hb' with ⟨e, h⟩ | ⟨e, h, hdp0⟩ | ⟨e, h, hdp0⟩
        · subst e
          rw [m_open hr hcM hpr (by omega) (by omega)]
          rcases h with h | h
          · rw [m_same (by omega) (by omega) (by omega) (by omega) (Or.inr (Or.inl h))]
            cases skip with
            | true =>
              have hE2 := hE
              rcases hE with ⟨h', _⟩ | ⟨_, B, g1, g2, g3, g4, g5, g6⟩
              · cases h'
              · rw [c_skip hr hcR hpr (by omega) (by omega) (by omega) (by omega), if_neg (by omega), if_neg (by omega)]
                exact ih n n' (p + 1) q t _ held true answ told _ _ _ (by omega) (by omega) (by omega) hAp' (by simp) (Or.inr ⟨rfl, B, g1, g2, g3, g4, g5, g6⟩) (fun _ => by omega) (fun h => absurd rfl h) hT
            | false =>
              rcases hE with ⟨_, ht, g1, g2, g3, g4⟩ | ⟨h', _⟩
              · subst ht
                rw [c_and hr hcR hpr h]
                refine ih n n' (p + 1) q 0 _ held (!held) answ told _ _ _ (by omega) (by omega) (by omega) hAp' (by simp) ?_ (fun _ => by omega) (fun h => absurd rfl h) hT
                have hal := g4 (by omega)
                cases held with
                | true => exact Or.inl ⟨rfl, rfl, g1, g2, fun _ => hal, fun h => absurd rfl h⟩
                | false => exact Or.inr ⟨rfl, dp, rfl, fun i hi => (g1 i hi).1, fun i hi => ⟨(g1 i (by omega)).2, g2 i hi⟩, fun h => (by cases h), fun _ => ⟨(g1 dp (Nat.le_refl _)).2, hal⟩, fun i h1 h2 => absurd h1 (by simp only at h2; omega)⟩
              · cases h'
          · rw [show nI (c p) = nI 124 by rw [h], m_bar (by omega)]
            cases skip with
            | true =>
              rcases hE with ⟨h', _⟩ | ⟨_, B, g1, g2, g3, g4, g5, g6⟩
              · cases h'
              · by_cases ht : t = 0
                · subst ht
                  have hB : B = dp := by omega
                  subst hB
                  cases held with
                  | true =>
                    rw [if_neg (by rw [g4 rfl]; exact one_ne), c_skip hr hcR hpr (by omega) (by omega) (by omega) (fun _ h => (by cases h)), if_neg (by omega), if_neg (by omega)]
                    refine ih n n' (p + 1) q 0 _ true true answ told _ _ _ (by omega) (by omega) (by omega) hAp' (by simp) ?_ (fun _ => by omega) (fun h => absurd rfl h) hT
                    exact Or.inr ⟨rfl, B, rfl, g2, fun i hi => by rw [pk_un (by omega), pk_un (by omega)]; exact g3 i hi, fun _ => pk_us, fun h => (by cases h), g6⟩
                  | false =>
                    rw [if_pos (g5 rfl).1, if_pos (g5 rfl).2, c_un hr hcR hpr (Or.inr ⟨h, rfl⟩)]
                    refine ih n n' (p + 1) q 0 _ false false answ told _ _ _ (by omega) (by omega) (by omega) hAp' (by simp) ?_ (fun _ => by omega) (fun h => absurd rfl h) hT
                    refine Or.inl ⟨rfl, rfl, fun i hi => ⟨g2 i hi, ?_⟩, fun i hi => by rw [pk_un (by simp only at hi; omega)]; exact (g3 i hi).2, fun _ => pk_us, fun h => absurd rfl h⟩
                    by_cases hiB : i = B
                    · subst hiB; rw [pk_us]
                    · rw [pk_un hiB]; exact (g3 i (by simp only at hi; omega)).1
                · have key : ∀ x y, FIN (k_Or_ruleHolds_17 done tup tdn (nI r) rsg psz pcd pld pct lful ljn (nI st) (nI code) (lN w) (n + 1) held true (nI t) (nI p) (nI q) answ) (k_Md_ruled_61 parts done full up down read begins pc pl pv joined (nI j) (nI code) (lN w) n' (nI dp) (nI (p + 1)) (nI q) told live (upd any dp x) (upd all dp y)) := by
                    intro x y
                    rw [c_skip hr hcR hpr (by omega) (by omega) (by omega) (by omega), if_neg (by omega), if_neg (by omega)]
                    refine ih n n' (p + 1) q t _ held true answ told _ _ _ (by omega) (by omega) (by omega) hAp' (by simp) ?_ (fun _ => by omega) (fun h => absurd rfl h) hT
                    exact Or.inr ⟨rfl, B, g1, g2, fun i hi => by rw [pk_un (by omega), pk_un (by omega)]; exact g3 i hi, fun hh => by rw [pk_un (by omega)]; exact g4 hh, fun hh => by rw [pk_un (by omega), pk_un (by omega)]; exact g5 hh, g6⟩
                  split
                  · split
                    · exact key _ _
                    · exact key _ _
                  · exact key _ _
            | false =>
              rcases hE with ⟨_, ht, g1, g2, g3, g4⟩ | ⟨h', _⟩
              · subst ht
                have hal := g4 (by omega)
                rw [if_pos (g1 dp (Nat.le_refl _)).2, c_orr hr hcR hpr h]
                cases held with
                | true =>
                  rw [if_neg (by rw [hal]; exact one_ne)]
                  refine ih n n' (p + 1) q 0 _ true true answ told _ _ _ (by omega) (by omega) (by omega) hAp' (by simp) ?_ (fun _ => by omega) (fun h => absurd rfl h) hT
                  exact Or.inr ⟨rfl, dp, rfl, fun i hi => (g1 i hi).1, fun i hi => by rw [pk_un (by omega), pk_un (by omega)]; exact ⟨(g1 i (by omega)).2, g2 i hi⟩, fun _ => pk_us, fun h => (by cases h), fun i h1 h2 => absurd h1 (by simp only at h2; omega)⟩
                | false =>
                  rw [if_pos (by rw [hal]; rfl)]
                  refine ih n n' (p + 1) q 0 _ false false answ told _ _ _ (by omega) (by omega) (by omega) hAp' (by simp) ?_ (fun _ => by omega) (fun h => absurd rfl h) hT
                  refine Or.inl ⟨rfl, rfl, fun i hi => ⟨(g1 i hi).1, ?_⟩, fun i hi => by rw [pk_un (by simp only at hi; omega)]; exact g2 i hi, fun _ => pk_us, fun h => absurd rfl h⟩
                  by_cases hid : i = dp
                  · subst hid; rw [pk_us]
                  · rw [pk_un hid]; exact (g1 i hi).2
              · cases h'
        · subst e
          obtain ⟨dp, rfl⟩ : ∃ e, dp = e + 1 := ⟨dp - 1, by omega⟩
          rw [m_open hr hcM hpr (by omega) (by omega), show nI (c p) = nI 41 by rw [h], m_pop (by omega)]
          rw [show dp + 1 - 1 = dp by omega] at hAp'
          have fin : ∀ (x : Int32), x = bI held → (∀ i, i ≤ dp → live i = 1 ∧ any i = 0) → (∀ i, i < dp → all i = 1) → FIN (k_Or_ruleHolds_17 done tup tdn (nI r) rsg psz pcd pld pct lful ljn (nI st) (nI code) (lN w) n held false (nI 0) (nI (p + 1)) (nI q) answ) (k_Md_ruled_61 parts done full up down read begins pc pl pv joined (nI j) (nI code) (lN w) n' (nI dp) (nI (p + 1)) (nI q) told live any (upd all dp x)) := by
            intro x hx g1 g2
            refine ih n n' (p + 1) q 0 (3, dp, 0, 0, rw) held false answ told _ _ _ (by omega) (by omega) (by omega) hAp' (by simp) ?_ (fun h => absurd h (by simp)) (fun _ => by omega) hT
            exact Or.inl ⟨rfl, rfl, g1, fun i hi => by rw [pk_un (by simp only at hi; omega)]; exact g2 i hi, fun h => absurd h (by simp), fun _ => by rw [pk_us]; exact hx⟩
          cases skip with
          | true =>
            rcases hE with ⟨h', _⟩ | ⟨_, B, g1, g2, g3, g4, g5, g6⟩
            · cases h'
            · by_cases ht : t = 0
              · subst ht
                have hB : B = dp + 1 := by omega
                subst hB
                rw [c_un hr hcR hpr (Or.inl h), if_neg (by rw [g2 _ (Nat.le_refl _)]; exact one_ne)]
                have k1 : ∀ i, i ≤ dp → live i = 1 ∧ any i = 0 := fun i hi => ⟨g2 i (by omega), (g3 i (by omega)).1⟩
                have k2 : ∀ i, i < dp → all i = 1 := fun i hi => (g3 i (by omega)).2
                cases held with
                | true => rw [if_neg (by rw [g4 rfl]; exact one_ne)]; exact fin 1 rfl k1 k2
                | false => rw [if_pos (g5 rfl).1, if_pos (g5 rfl).2]; exact fin 0 rfl k1 k2
              · rw [if_pos (g6 (dp + 1) (by omega) (Nat.le_refl _)), c_skip hr hcR hpr (by omega) (by omega) (by omega) (by omega), if_neg (by omega), if_pos h]
                refine ih n n' (p + 1) q (t - 1) (3, dp, 0, 0, rw) held true answ told _ _ _ (by omega) (by omega) (by omega) hAp' (by simp) ?_ (fun h => absurd h (by simp)) (fun _ => by omega) hT
                refine Or.inr ⟨rfl, B, by simp only; omega, g2, fun i hi => by rw [pk_un (by omega)]; exact g3 i hi, g4, fun hh => ⟨(g5 hh).1, ?_⟩, fun i h1 h2 => g6 i h1 (by simp only at h2; omega)⟩
                by_cases hBd : B = dp
                · subst hBd; rw [pk_us, (g5 hh).2, vn_f]
                · rw [pk_un hBd]; exact (g5 hh).2
          | false =>
            rcases hE with ⟨_, ht, g1, g2, g3, g4⟩ | ⟨h', _⟩
            · subst ht
              have hal := g4 (by omega)
              rw [c_same hr hcR hpr (by omega) (by omega) (by omega) (by omega), if_neg (by rw [(g1 _ (Nat.le_refl _)).1]; exact one_ne), if_pos (g1 _ (Nat.le_refl _)).2]
              have k1 : ∀ i, i ≤ dp → live i = 1 ∧ any i = 0 := fun i hi => g1 i (by omega)
              have k2 : ∀ i, i < dp → all i = 1 := fun i hi => g2 i (by omega)
              cases held with
              | true => rw [if_neg (by rw [hal]; exact one_ne)]; exact fin 1 rfl k1 k2
              | false => rw [if_pos (by rw [hal]; rfl)]; exact fin 0 rfl k1 k2
            · cases h'
        · subst hdp0
          obtain ⟨e1, e2⟩ := hcR p hpr
          obtain ⟨e3, _⟩ := hcM p hpr
          rw [k_Or_ruleHolds_17_s, if_neg (by rw [i_le (by omega) (by omega)]; omega), ix_ok (by omega) (by omega), clI (by omega), e1, h, if_pos li59.symm]
          rw [k_Md_ruled_61_s, ix_ok (by omega) (by omega), clI (by omega), e3, h, if_pos li59.symm, show (0 : Int32).toNatClampNeg = 0 by decide]
          rw [show ixg (0 : Int32) 9 = ixg (nI 0) 9 from rfl, ix_ok (by omega) (by omega), ix_ok (by omega) (by omega)]
          rcases hE with ⟨_, ht, g1, g2, g3, g4⟩ | ⟨_, B, g1, g2, g3, g4, g5, g6⟩
          · have hal := g4 (by omega)
            rw [if_pos (g1 0 (Nat.le_refl _)).2]
            cases held with
            | true => rw [if_neg (by rw [hal]; exact one_ne)]; exact ⟨_, _, _, _, _, _, _, rfl, rfl, by omega, hT⟩
            | false => rw [if_pos (by rw [hal]; rfl)]; exact ⟨_, _, _, _, _, _, _, rfl, rfl, by omega, hT⟩
          · have hB : B = 0 := by omega
            subst hB
            cases held with
            | true => rw [if_neg (by rw [g4 rfl]; exact one_ne)]; exact ⟨_, _, _, _, _, _, _, rfl, rfl, by omega, hT⟩
            | false => rw [if_pos (g5 rfl).1, if_pos (g5 rfl).2]; exact ⟨_, _, _, _, _, _, _, rfl, rfl, by omega, hT⟩
      have hmd2 : md = 3 ∨ md = 4 ∨ md = 5 := by omega
      rcases hmd2 with rfl | rfl | rfl
      · exact hbh hnx
      · rw [nx4] at hnx
        split at hnx
        · rename_i hcond
          cases hnx
          exact same hcond.1 rfl rfl
        · split at hnx
          · exact hbh hnx
          · cases hnx
      · rw [nx5] at hnx
        split at hnx
        · rename_i hcond
          cases hnx
          exact same hcond.1 rfl rfl
        · split at hnx
          · exact hbh hnx
          · cases hnx
