theorem at_fun {c : Nat → Nat} {p : Nat} {s s' : S5} (h : AT c p s) (h' : AT c p s') : s = s' := Option.some.inj (h.symm.trans h')
theorem at_pre {c : Nat → Nat} {p : Nat} : ∀ (d : Nat) {s : S5}, AT c (p + d) s → ∃ s', AT c p s'
  | 0, s, h => ⟨s, h⟩
  | d + 1, s, h => by
    obtain ⟨s1, h1, _⟩ := at_inv h
    exact at_pre d h1
theorem at_le {c : Nat → Nat} {p r : Nat} {s : S5} (h : AT c r s) (hp : p ≤ r) : ∃ s', AT c p s' := by
  rw [show r = p + (r - p) by omega] at h
  exact at_pre _ h
theorem at_nx {c : Nat → Nat} {p r : Nat} {s z : S5} (h : AT c p s) (hr : AT c r z) (hp : p < r) : ∃ s', nx s (c p) = some s' ∧ AT c (p + 1) s' := by
  obtain ⟨s', h1⟩ := at_le hr (show p + 1 ≤ r by omega)
  obtain ⟨s2, h2, h3⟩ := at_inv h1
  rw [at_fun h2 h] at h3
  exact ⟨s', h3, h1⟩
theorem at_mono {c : Nat → Nat} {p : Nat} {s : S5} (h : AT c p s) : ∀ (d : Nat) {s' : S5}, AT c (p + d + 1) s' → s.2.2.2.2 ≤ s'.2.2.2.2 ∧ (s'.1 = 0 → s.2.2.2.2 < s'.2.2.2.2)
  | 0, s', h' => by
    obtain ⟨s1, h1, h2⟩ := at_inv h'
    rw [at_fun h1 h] at h2
    rcases nx_form (ok_at h) h2 with ⟨rfl, _⟩ | ⟨h3, h4⟩
    · exact ⟨by simp only; omega, fun _ => by simp only; omega⟩
    · exact ⟨by omega, fun h5 => absurd h5 h3⟩
  | d + 1, s', h' => by
    obtain ⟨s1, h1, h2⟩ := at_inv h'
    have ih := at_mono h d h1
    rcases nx_form (ok_at h1) h2 with ⟨rfl, _⟩ | ⟨h3, h4⟩
    · exact ⟨by simp only; omega, fun _ => by simp only; omega⟩
    · exact ⟨by omega, fun h5 => absurd h5 h3⟩
theorem at_uniq {c : Nat → Nat} {p q j : Nat} (h : AT c p (0, 0, 0, 0, j)) (h' : AT c q (0, 0, 0, 0, j)) : p = q := by
  rcases Nat.lt_trichotomy p q with hlt | heq | hlt
  · rw [show q = p + (q - p - 1) + 1 by omega] at h'
    have := (at_mono h _ h').2 rfl
    simp only at this
    omega
  · exact heq
  · rw [show p = q + (p - q - 1) + 1 by omega] at h
    have := (at_mono h' _ h).2 rfl
    simp only at this
    omega
theorem at_last {c : Nat → Nat} {r k : Nat} (h : AT c r (0, 0, 0, 0, k)) (hr : 0 < r) : c (r - 1) = 59 := by
  rw [show r = r - 1 + 1 by omega] at h
  obtain ⟨s, h1, h2⟩ := at_inv h
  rcases nx_form (ok_at h1) h2 with ⟨_, _, _, h3⟩ | ⟨h3, _⟩
  · exact h3
  · exact absurd rfl h3
theorem valf_snoc (c : Nat → Nat) (e : Nat) : ∀ (v p : Nat), valf c v p (e + 1) = 10 * valf c v p e + (c (p + e) - 48) := by
  induction e with
  | zero => intro v p; rw [valf_s, valf_0, valf_0, Nat.add_zero]
  | succ e ih => intro v p; rw [valf_s, ih, ← valf_s, show p + 1 + e = p + (e + 1) by omega]
theorem ndig {c : Nat → Nat} {z : Nat} (hz : ¬ dig (c z)) : ∀ (d q : Nat), q + d = z → ∃ e, e ≤ d ∧ (∀ j, j < e → dig (c (q + j))) ∧ ¬ dig (c (q + e)) := by
  intro d
  induction d with
  | zero => intro q hq; exact ⟨0, by omega, fun j hj => absurd hj (by omega), by rw [show q + 0 = z by omega]; exact hz⟩
  | succ d ih =>
    intro q hq
    rcases dig_dec (c q) with h | h
    · obtain ⟨e, h1, h2, h3⟩ := ih (q + 1) (by omega)
      refine ⟨e + 1, by omega, fun j hj => ?_, by rw [show q + (e + 1) = q + 1 + e by omega]; exact h3⟩
      cases j with
      | zero => exact h
      | succ j => rw [show q + (j + 1) = q + 1 + j by omega]; exact h2 j (by omega)
    · exact ⟨0, by omega, fun j hj => absurd hj (by omega), h⟩
theorem or_let {ch : Nat} (h : ch < 2 ^ 31) : m_Or_isLetter (nI ch) = some (decide (65 ≤ ch ∧ ch ≤ 90)) := by
  unfold m_Or_isLetter
  rw [gd32, nI_toInt h, ti65, ti90]
  congr 1
  apply decide_eq_decide.mpr
  omega
theorem numC {c : Nat → Nat} {r : Nat} {rsg : Nat → Int32} {P : Int32} (hr : r ≤ 300) (hc : ∀ j, j < r → rsg j = nI (c j) ∧ c j ≤ 126) : ∀ (e n v p : Nat), p + e < r → (∀ j, j < e → dig (c (p + j))) → ¬ dig (c (p + e)) → e < n → k_Rows_numberAt_4 (nI r) rsg P n (nI v) (nI p) = some (nI (valf c v p e)) := by
  intro e
  induction e with
  | zero =>
    intro n v p hp hd hnd hn
    obtain ⟨n, rfl⟩ : ∃ k, n = k + 1 := ⟨n - 1, by omega⟩
    obtain ⟨e1, e2⟩ := hc p (by omega)
    rw [k_Rows_numberAt_4_s, if_neg (by rw [i_le (by omega) (by omega)]; omega), ix_ok (by omega) (by omega), clI (by omega), e1, or_dig (by omega), e_bd1, gF (show ¬ (48 ≤ c p ∧ c p ≤ 57) from hnd), valf_0]
  | succ e ih =>
    intro n v p hp hd hnd hn
    obtain ⟨n, rfl⟩ : ∃ k, n = k + 1 := ⟨n - 1, by omega⟩
    obtain ⟨e1, e2⟩ := hc p (by omega)
    have h0 := hd 0 (by omega)
    rw [k_Rows_numberAt_4_s, if_neg (by rw [i_le (by omega) (by omega)]; omega), ix_ok (by omega) (by omega), clI (by omega), e1, or_dig (by omega), e_bd1, gT (show 48 ≤ c p ∧ c p ≤ 57 from h0), ix_ok (by omega) (by omega), li10, li48, pk_mul, pk_sub (show 48 ≤ c p from h0.1), nI_add, nI_1, valf_s, Nat.mul_comm v 10]
    exact ih n _ (p + 1) (by omega) (fun j hj => by rw [show p + 1 + j = p + (j + 1) by omega]; exact hd (j + 1) (by omega)) (by rw [show p + 1 + e = p + (e + 1) by omega]; exact hnd) (by omega)
theorem numM {c : Nat → Nat} {r : Nat} {read : Nat → Int32} {P : Int32} (hr : r ≤ 300) (hc : ∀ j, j < r → read j = nI (c j) ∧ c j ≤ 126) : ∀ (e n v p : Nat), p + e < r → (∀ j, j < e → dig (c (p + j))) → ¬ dig (c (p + e)) → e < n → k_Md_numberAt_6 read P n (nI v) (nI p) = some (nI (valf c v p e)) := by
  intro e
  induction e with
  | zero =>
    intro n v p hp hd hnd hn
    obtain ⟨n, rfl⟩ : ∃ k, n = k + 1 := ⟨n - 1, by omega⟩
    obtain ⟨e1, e2⟩ := hc p (by omega)
    rw [k_Md_numberAt_6_s, ix_ok (by omega) (by omega), clI (by omega), e1, md_dig (by omega), e_bd1, gF (show ¬ (48 ≤ c p ∧ c p ≤ 57) from hnd), valf_0]
  | succ e ih =>
    intro n v p hp hd hnd hn
    obtain ⟨n, rfl⟩ : ∃ k, n = k + 1 := ⟨n - 1, by omega⟩
    obtain ⟨e1, e2⟩ := hc p (by omega)
    have h0 := hd 0 (by omega)
    have h48 : 48 ≤ c p := h0.1
    rw [k_Md_numberAt_6_s, ix_ok (by omega) (by omega), clI (by omega), e1, md_dig (by omega), e_bd1, gT (show 48 ≤ c p ∧ c p ≤ 57 from h0), ix_ok (by omega) (by omega), li10, li48, pk_mul, nI_add, pk_sub (by omega), nI_1, valf_s, show 10 * v + c p - 48 = 10 * v + (c p - 48) by omega]
    exact ih n _ (p + 1) (by omega) (fun j hj => by rw [show p + 1 + j = p + (j + 1) by omega]; exact hd (j + 1) (by omega)) (by rw [show p + 1 + e = p + (e + 1) by omega]; exact hnd) (by omega)
theorem p10 : ∀ i, i < 6 → 100000 / 10 ^ i = 10 ^ (5 - i) ∧ 10 ^ (6 - i) = 10 ^ (5 - i) * 10 ∧ 0 < 10 ^ (5 - i) ∧ 10 ^ (5 - i) ≤ 100000 := by decide
theorem beginM {c : Nat → Nat} {r code st e : Nat} {read begins : Nat → Int32} {P : Int32} (hr : r ≤ 300) (hc : ∀ j, j < r → read j = nI (c j) ∧ c j ≤ 126) (hcode : code ≤ 999999) (he : e ≤ 6) (hst : st + e < r) (hd : ∀ j, j < e → dig (c (st + j))) (h58 : c (st + e) = 58) :
    ∀ (d n i : Nat) (fl : Bool), i + d = e → d < n → (fl = true ↔ code / 10 ^ (6 - i) = valf c 0 st i) → k_Md_begin_17 read begins P (nI code) n (nI i) (nI (100000 / 10 ^ i)) fl (nI (st + i)) = some (if code / 10 ^ (6 - e) = valf c 0 st e then nI e else 0) := by
  intro d
  induction d with
  | zero =>
    intro n i fl hi hn hfl
    obtain ⟨n, rfl⟩ : ∃ k, n = k + 1 := ⟨n - 1, by omega⟩
    have hie : i = e := by omega
    subst hie
    obtain ⟨e1, e2⟩ := hc (st + i) (by omega)
    rw [k_Md_begin_17_s, ix_ok (by omega) (by omega), clI (by omega), e1, h58, if_pos li58.symm]
    cases fl with
    | true => rw [gt, if_pos (hfl.mp rfl)]
    | false => rw [gf, if_neg (fun h => by have := hfl.mpr h; cases this)]
  | succ d ih =>
    intro n i fl hi hn hfl
    obtain ⟨n, rfl⟩ : ∃ k, n = k + 1 := ⟨n - 1, by omega⟩
    obtain ⟨e1, e2⟩ := hc (st + i) (by omega)
    have hdi := hd i (by omega)
    have hdi2 : 48 ≤ c (st + i) ∧ c (st + i) ≤ 57 := hdi
    obtain ⟨q1, q2, q3, q4⟩ := p10 i (by omega)
    have hsn := valf_snoc c i 0 st
    have hdd : code / 10 ^ (5 - i) / 10 = code / 10 ^ (6 - i) := by rw [Nat.div_div_eq_div_mul, ← q2]
    have h6 : 6 - (i + 1) = 5 - i := by omega
    have hle : code / 10 ^ (5 - i) ≤ code := Nat.div_le_self _ _
    have step : ∀ fl', (fl' = true ↔ code / 10 ^ (5 - i) = 10 * valf c 0 st i + (c (st + i) - 48)) → k_Md_begin_17 read begins P (nI code) n (nI i + 1) (nI (100000 / 10 ^ i) / 10) fl' (nI (st + i) + 1) = some (if code / 10 ^ (6 - e) = valf c 0 st e then nI e else 0) := by
      intro fl' hfl'
      have := ih n (i + 1) fl' (by omega) (by omega) (by rw [h6, hsn]; exact hfl')
      rw [nI_1, nI_1, li10, pk_div (by rw [q1]; omega) (by omega) (by omega), Nat.div_div_eq_div_mul, ← Nat.pow_succ]
      exact this
    rw [k_Md_begin_17_s, ix_ok (by omega) (by omega), clI (by omega), e1, li58]
    rw [if_neg (by rw [i_eq (by omega) (by omega)]; omega)]
    unfold k_Md_begin_58 k_Md_begin_59
    cases fl with
    | false =>
      rw [gf]
      apply step
      constructor
      · intro h; cases h
      · intro h
        have : code / 10 ^ (6 - i) = valf c 0 st i := by rw [← hdd, h]; omega
        have := hfl.mpr this
        cases this
    | true =>
      have hV := hfl.mp rfl
      rw [gt, ix_ok (by omega) (by omega)]
      have hnz : ∀ (k : Option Int32), nzgI (nI (100000 / 10 ^ i)) k = k := fun k => if_neg (nI_ne0 (by rw [q1]; exact q3) (by rw [q1]; omega))
      rw [hnz]
      have hcmp : (nI (c (st + i)) - 48 = nI code / nI (100000 / 10 ^ i) - nI code / nI (100000 / 10 ^ i) / 10 * 10) = (c (st + i) - 48 = code / 10 ^ (5 - i) % 10) := by
        rw [q1, pk_div (by omega) q3 (by omega), li10, pk_rem (by omega) (by omega) (by omega), li48, pk_sub hdi2.1, i_eq (by omega) (by omega)]
      simp only [hcmp]
      by_cases hm : c (st + i) - 48 = code / 10 ^ (5 - i) % 10
      · rw [if_pos hm]
        exact step true ⟨fun _ => by omega, fun _ => rfl⟩
      · rw [if_neg hm]
        refine step false ⟨fun h => (by cases h), fun h => ?_⟩
        omega
def BST (c : Nat → Nat) (r k : Nat) (x y : Int32) : Prop := (x = -1 ∧ y = -1) ∨ ∃ q i : Nat, x = nI q ∧ y = nI i ∧ i < k ∧ q < r ∧ AT c q (0, 0, 0, 0, i)
def BS2 (c : Nat → Nat) (r k j : Nat) (x2 x3 y2 y3 : Int32) : Prop := (x2 = -1 ∧ x3 = nI 0 ∧ y2 = -1 ∧ y3 = nI 1) ∨ ∃ q i d : Nat, x2 = nI q ∧ x3 = nI d ∧ y2 = nI i ∧ y3 = nI d ∧ i < k ∧ q < r ∧ AT c q (0, 0, 0, 0, i) ∧ 1 ≤ d ∧ d ≤ 6
theorem rows_sim {c : Nat → Nat} {r k code : Nat} {rsg read begins : Nat → Int32} (hr : r ≤ 300) (hk : k ≤ 20) (hcode : code ≤ 999999) (hc : ∀ j, j < r → rsg j = nI (c j) ∧ read j = nI (c j) ∧ c j ≤ 126) (hA : AT c r (0, 0, 0, 0, k)) (hB : ∀ j, j < k → ∃ q, begins j = nI q ∧ q < r ∧ AT c q (0, 0, 0, 0, j)) :
    ∀ (d n n' p j st : Nat) (s : S5) (x2 x3 y2 y3 : Int32), p + d = r → d < n → k - j < n' → AT c p s → (s.1 ≤ 1 → j = s.2.2.2.2) → (2 ≤ s.1 → j = s.2.2.2.2 + 1) → (s.1 = 0 → st = p) → (s.1 = 1 → p = st + s.2.2.1 ∧ AT c st (0, 0, 0, 0, s.2.2.2.2) ∧ ∀ i, i < s.2.2.1 → dig (c (st + i))) → BS2 c r k j x2 x3 y2 y3 →
    ∃ x y, k_Rows_startFor_10 (nI r) rsg (nI code) n x2 x3 (nI st) (nI p) = some x ∧ k_Md_rowOf_7 (nI k) read begins (nI code) n' y2 y3 (nI j) = some y ∧ BST c r k x y := by
  have hcR : ∀ j, j < r → rsg j = nI (c j) ∧ c j ≤ 126 := fun j hj => ⟨(hc j hj).1, (hc j hj).2.2⟩
  have hcM : ∀ j, j < r → read j = nI (c j) ∧ c j ≤ 126 := fun j hj => (hc j hj).2
  intro d
  induction d with
  | zero =>
    intro n n' p j st s x2 x3 y2 y3 hp hn hn' hAp hj1 hj2 hs0 hs1 hBS
    obtain ⟨n, rfl⟩ : ∃ k, n = k + 1 := ⟨n - 1, by omega⟩
    obtain ⟨n', rfl⟩ : ∃ k, n' = k + 1 := ⟨n' - 1, by omega⟩
    have hpr : p = r := by omega
    subst hpr
    have hse := at_fun hAp hA
    subst hse
    have hjk : j = k := hj1 (by simp)
    subst hjk
    rw [k_Rows_startFor_10_s, if_pos (by rw [i_le (by omega) (by omega)]; omega), k_Md_rowOf_7_s, if_pos (by rw [i_le (by omega) (by omega)]; omega)]
    refine ⟨x2, y2, rfl, rfl, ?_⟩
    rcases hBS with ⟨h1, _, h2, _⟩ | ⟨q, i, dd, h1, _, h2, _, h3, h4, h5, _⟩
    · exact Or.inl ⟨h1, h2⟩
    · exact Or.inr ⟨q, i, h1, h2, h3, h4, h5⟩
  | succ d ih =>
    intro n n' p j st s x2 x3 y2 y3 hp hn hn' hAp hj1 hj2 hs0 hs1 hBS
    obtain ⟨n, rfl⟩ : ∃ k, n = k + 1 := ⟨n - 1, by omega⟩
    obtain ⟨s', hnx, hAp'⟩ := at_nx hAp hA (show p < r by omega)
    obtain ⟨e1, e2⟩ := hcR p (by omega)
    rw [k_Rows_startFor_10_s, if_neg (by rw [i_le (by omega) (by omega)]; omega), ix_ok (by omega) (by omega), ix_ok (by omega) (by omega), clI (by omega), e1, li59, li58]
    simp only [i_eq (show c p < 2 ^ 31 by omega) (show 59 < 2 ^ 31 by omega), i_eq (show c p < 2 ^ 31 by omega) (show 58 < 2 ^ 31 by omega), nI_1]
    have plain : ¬ c p = 59 → ¬ c p = 58 → (s'.1 ≤ 1 → j = s'.2.2.2.2) → (2 ≤ s'.1 → j = s'.2.2.2.2 + 1) → (s'.1 = 0 → st = p + 1) → (s'.1 = 1 → p + 1 = st + s'.2.2.1 ∧ AT c st (0, 0, 0, 0, s'.2.2.2.2) ∧ ∀ i, i < s'.2.2.1 → dig (c (st + i))) → ∃ x y, (if c p = 59 then k_Rows_startFor_10 (nI r) rsg (nI code) n x2 x3 (nI (p + 1)) (nI (p + 1)) else if c p = 58 then (if (nI p - nI st) < x3 then k_Rows_startFor_10 (nI r) rsg (nI code) n x2 x3 (nI st) (nI (p + 1)) else bd1 (m_Or_beginning (nI code) (nI p - nI st)) (fun r_68 => bd1 (m_Rows_numberAt (nI st) (nI r) rsg) (fun r_74 => if r_68 = r_74 then k_Rows_startFor_10 (nI r) rsg (nI code) n (nI st) (nI p - nI st) (nI st) (nI (p + 1)) else k_Rows_startFor_10 (nI r) rsg (nI code) n x2 x3 (nI st) (nI (p + 1))))) else k_Rows_startFor_10 (nI r) rsg (nI code) n x2 x3 (nI st) (nI (p + 1))) = some x ∧ k_Md_rowOf_7 (nI k) read begins (nI code) n' y2 y3 (nI j) = some y ∧ BST c r k x y := by
      intro h59 h58 k1 k2 k3 k4
      rw [if_neg h59, if_neg h58]
      exact ih n n' (p + 1) j st s' x2 x3 y2 y3 (by omega) (by omega) hn' hAp' k1 k2 k3 k4 hBS
    obtain ⟨md, dp, ct, vl, rw⟩ := s
    have hs := ok_un (ok_at hAp)
    simp only at hj1 hj2 hs0 hs1
    have hmd : md = 0 ∨ md = 1 ∨ md = 2 ∨ 3 ≤ md := by omega
    rcases hmd with rfl | rfl | rfl | hmd
    · rw [nx0] at hnx
      split at hnx
      · rename_i hcond
        cases hnx
        have hst := hs0 rfl
        subst hst
        refine plain (by omega) (by omega) (fun _ => hj1 (by omega)) (fun h => absurd h (by simp)) (fun h => absurd h (by simp)) (fun _ => ⟨rfl, ?_, fun i hi => ?_⟩)
        · have := at_zero hAp rfl
          rw [this] at hAp
          exact hAp
        · simp only at hi
          rw [show i = 0 by omega, Nat.add_zero]
          exact hcond.1
      · cases hnx
    · obtain ⟨hpst, hAst, hdg⟩ := hs1 rfl
      rw [nx1] at hnx
      split at hnx
      · rename_i hcond
        cases hnx
        refine plain (by omega) (by omega) (fun _ => hj1 (by omega)) (fun h => absurd h (by simp)) (fun h => absurd h (by simp)) (fun _ => ⟨by simp only; omega, hAst, fun i hi => ?_⟩)
        simp only at hi
        by_cases hict : i = ct
        · rw [hict, ← hpst]; exact hcond.1
        · exact hdg i (by omega)
      · split at hnx
        · rename_i hcond h58
          cases hnx
          have hj := hj1 (by omega)
          subst hj
          rw [if_neg (by omega), if_pos h58]
          obtain ⟨s2, hs2, hs2'⟩ := at_nx hAp hA (show p < r by omega)
          have hjk : j < k := by
            have := at_mono hAp (r - p - 1) (s' := (0, 0, 0, 0, k)) (by rw [show p + (r - p - 1) + 1 = r by omega]; exact hA)
            exact this.2 rfl
          obtain ⟨q, hq1, hq2, hq3⟩ := hB j hjk
          have hqst := at_uniq hq3 hAst
          subst hqst
          have hct0 : 0 < ct := by
            rcases Nat.eq_zero_or_pos ct with h | h
            · rw [h, Nat.add_zero] at hpst
              rw [hpst] at hAp
              have := at_fun hAp hAst
              cases this
            · exact h
          have hnd : ¬ dig (c (q + ct)) := by rw [← hpst, h58]; unfold dig; omega
          have hps : nI p - nI q = nI ct := by rw [pk_sub (by omega), show p - q = ct by omega]
          have hvl := valf_lt ct 0 q hdg
          have h106 : 10 ^ ct ≤ 10 ^ 6 := Nat.pow_le_pow_right (by omega) (by omega)
          have hcd : code / 10 ^ (6 - ct) ≤ code := Nat.div_le_self _ _
          unfold m_Rows_numberAt
          rw [hps, begin_eq (by omega) (by omega), e_bd1, li0, numC hr hcR ct 2000 0 q (by omega) hdg hnd (by omega), e_bd1]
          simp only [i_eq (show code / 10 ^ (6 - ct) < 2 ^ 31 by omega) (show valf c 0 q ct < 2 ^ 31 by omega)]
          obtain ⟨n', rfl⟩ : ∃ k, n' = k + 1 := ⟨n' - 1, by omega⟩
          have hbg : m_Md_begin (nI j) (nI code) read begins = some (if code / 10 ^ (6 - ct) = valf c 0 q ct then nI ct else 0) := by
            unfold m_Md_begin
            rw [ix_ok (by omega) (by omega), clI (by omega), hq1]
            have := beginM (begins := begins) (P := nI j) hr hcM hcode (show ct ≤ 6 by omega) (show q + ct < r by omega) hdg (by rw [← hpst]; exact h58) ct 2000 0 true (by omega) (by omega) ⟨fun _ => by rw [valf_0]; exact Nat.div_eq_of_lt (by omega), fun _ => rfl⟩
            exact this
          rw [k_Md_rowOf_7_s, if_neg (show ¬ nI k ≤ nI j by rw [i_le (by omega) (by omega)]; omega), hbg, e_bd1]
          unfold k_Md_rowOf_37
          rw [nI_1]
          have hih := fun x2 x3 y2 y3 hbs => ih n n' (p + 1) (j + 1) q _ x2 x3 y2 y3 (by omega) (by omega) (by omega) hAp' (fun h => absurd h (by simp)) (fun _ => rfl) (fun h => absurd h (by simp)) (fun h => absurd h (by simp)) hbs
          by_cases hm : code / 10 ^ (6 - ct) = valf c 0 q ct
          · rw [if_pos hm, if_pos hm]
            rcases hBS with ⟨b1, b2, b3, b4⟩ | ⟨q0, i0, d0, b1, b2, b3, b4, b5, b6, b7, b8, b9⟩
            · subst b1; subst b2; subst b3; subst b4
              rw [if_neg (by rw [i_lt (by omega) (by omega)]; omega), if_neg (by rw [i_lt (by omega) (by omega)]; omega), if_neg (by rw [i_lt (by omega) (by omega)]; omega)]
              exact hih _ _ _ _ (Or.inr ⟨q, j, ct, rfl, rfl, rfl, rfl, hjk, hq2, hAst, by omega, by omega⟩)
            · subst b1; subst b2; subst b3; subst b4
              by_cases hlt : ct < d0
              · rw [if_pos (by rw [i_lt (by omega) (by omega)]; omega), if_pos (by rw [i_lt (by omega) (by omega)]; omega), if_pos (by rw [i_lt (by omega) (by omega)]; omega)]
                exact hih _ _ _ _ (Or.inr ⟨q0, i0, d0, rfl, rfl, rfl, rfl, b5, b6, b7, b8, b9⟩)
              · rw [if_neg (by rw [i_lt (by omega) (by omega)]; omega), if_neg (by rw [i_lt (by omega) (by omega)]; omega), if_neg (by rw [i_lt (by omega) (by omega)]; omega)]
                exact hih _ _ _ _ (Or.inr ⟨q, j, ct, rfl, rfl, rfl, rfl, hjk, hq2, hAst, by omega, by omega⟩)
          · rw [if_neg hm, if_neg hm, ite_self]
            have h0y : (0 : Int32) < y3 := by
              rcases hBS with ⟨b1, b2, b3, b4⟩ | ⟨q0, i0, d0, b1, b2, b3, b4, b5, b6, b7, b8, b9⟩
              · rw [b4]; decide
              · rw [b4]; exact nI_lt (a := 0) (by omega) (by omega)
            rw [if_pos h0y, if_pos h0y]
            refine hih _ _ _ _ ?_
            rcases hBS with h | h
            · exact Or.inl h
            · exact Or.inr h
        · cases hnx
    · rw [nx2] at hnx
      have hj := hj2 (by omega)
      rcases ahd_some hnx with ⟨rfl, h⟩ | ⟨rfl, h⟩ | ⟨rfl, h⟩ | ⟨rfl, h⟩
      · exact plain (by omega) (by omega) (fun h => absurd h (by simp)) (fun _ => hj) (fun h => absurd h (by simp)) (fun h => absurd h (by simp))
      · exact plain (by omega) (by omega) (fun h => absurd h (by simp)) (fun _ => hj) (fun h => absurd h (by simp)) (fun h => absurd h (by simp))
      · exact plain (by omega) (by omega) (fun h => absurd h (by simp)) (fun _ => hj) (fun h => absurd h (by simp)) (fun h => absurd h (by simp))
      · exact plain (by omega) (by omega) (fun h => absurd h (by simp)) (fun _ => hj) (fun h => absurd h (by simp)) (fun h => absurd h (by simp))
    · have hj := hj2 (by omega)
      have hbh : bh (c p) dp rw = some s' → ∃ x y, (if c p = 59 then k_Rows_startFor_10 (nI r) rsg (nI code) n x2 x3 (nI (p + 1)) (nI (p + 1)) else if c p = 58 then (if (nI p - nI st) < x3 then k_Rows_startFor_10 (nI r) rsg (nI code) n x2 x3 (nI st) (nI (p + 1)) else bd1 (m_Or_beginning (nI code) (nI p - nI st)) (fun r_68 => bd1 (m_Rows_numberAt (nI st) (nI r) rsg) (fun r_74 => if r_68 = r_74 then k_Rows_startFor_10 (nI r) rsg (nI code) n (nI st) (nI p - nI st) (nI st) (nI (p + 1)) else k_Rows_startFor_10 (nI r) rsg (nI code) n x2 x3 (nI st) (nI (p + 1))))) else k_Rows_startFor_10 (nI r) rsg (nI code) n x2 x3 (nI st) (nI (p + 1))) = some x ∧ k_Md_rowOf_7 (nI k) read begins (nI code) n' y2 y3 (nI j) = some y ∧ BST c r k x y := by
        intro hb'
        rcases bh_some hb' with ⟨rfl, h⟩ | ⟨rfl, h⟩ | ⟨rfl, h, _⟩
        · exact plain (by omega) (by omega) (fun h => absurd h (by simp)) (fun _ => hj) (fun h => absurd h (by simp)) (fun h => absurd h (by simp))
        · exact plain (by omega) (by omega) (fun h => absurd h (by simp)) (fun _ => hj) (fun h => absurd h (by simp)) (fun h => absurd h (by simp))
        · rw [if_pos h]
          exact ih n n' (p + 1) j (p + 1) _ x2 x3 y2 y3 (by omega) (by omega) hn' hAp' (fun _ => hj) (fun h => absurd h (by simp)) (fun _ => rfl) (fun h => absurd h (by simp)) hBS
      have hmd2 : md = 3 ∨ md = 4 ∨ md = 5 := by omega
      rcases hmd2 with rfl | rfl | rfl
      · exact hbh hnx
      · rw [nx4] at hnx
        split at hnx
        · cases hnx
          exact plain (by omega) (by omega) (fun h => absurd h (by simp)) (fun _ => hj) (fun h => absurd h (by simp)) (fun h => absurd h (by simp))
        · split at hnx
          · exact hbh hnx
          · cases hnx
      · rw [nx5] at hnx
        split at hnx
        · cases hnx
          exact plain (by omega) (by omega) (fun h => absurd h (by simp)) (fun _ => hj) (fun h => absurd h (by simp)) (fun h => absurd h (by simp))
        · split at hnx
          · exact hbh hnx
          · cases hnx
theorem start_eq {c : Nat → Nat} {r k code : Nat} {rsg read begins : Nat → Int32} (hr : r ≤ 300) (hk : k ≤ 20) (hcode : code ≤ 999999) (hc : ∀ j, j < r → rsg j = nI (c j) ∧ read j = nI (c j) ∧ c j ≤ 126) (hA : AT c r (0, 0, 0, 0, k)) (hB : ∀ j, j < k → ∃ q, begins j = nI q ∧ q < r ∧ AT c q (0, 0, 0, 0, j)) :
    ∃ x y, m_Rows_startFor (nI code) (nI r) rsg = some x ∧ m_Md_rowOf (nI code) (nI k) read begins = some y ∧ BST c r k x y :=
  rows_sim hr hk hcode hc hA hB r 2000 2000 0 0 0 (0, 0, 0, 0, 0) (-1) 0 (-1) 1 (by omega) (by omega) (by omega) (at0 c) (fun _ => rfl) (fun h => absurd h (by simp)) (fun _ => rfl) (fun h => absurd h (by simp)) (Or.inl ⟨rfl, rfl, rfl, rfl⟩)
