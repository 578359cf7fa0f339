abbrev S5 := Nat × Nat × Nat × Nat × Nat
def dig (ch : Nat) : Prop := 48 ≤ ch ∧ ch ≤ 57
theorem dig_dec (ch : Nat) : dig ch ∨ ¬ dig ch := Classical.em _
def bh (ch dp rw : Nat) : Option S5 :=
  if ch = 38 then some (2, dp, 0, 0, rw) else if ch = 124 then some (2, dp, 0, 0, rw) else if ch = 41 ∧ 0 < dp then some (3, dp - 1, 0, 0, rw) else if ch = 59 ∧ dp = 0 then some (0, 0, 0, 0, rw + 1) else none
def ahd (ch dp rw : Nat) : Option S5 :=
  if ch = 87 then some (3, dp, 0, 0, rw) else if ch = 67 then some (3, dp, 0, 0, rw) else if ch = 72 then some (3, dp, 0, 0, rw) else if ch = 83 then some (3, dp, 0, 0, rw) else if ch = 86 then some (4, dp, 0, 0, rw) else if ch = 80 then some (5, dp, 0, 0, rw) else if ch = 40 ∧ dp < 8 then some (2, dp + 1, 0, 0, rw) else none
def nx (s : S5) (ch : Nat) : Option S5 :=
  if s.1 = 0 then (if (48 ≤ ch ∧ ch ≤ 57) ∧ s.2.2.2.2 < 20 then some (1, 0, 1, 0, s.2.2.2.2) else none)
  else if s.1 = 1 then (if (48 ≤ ch ∧ ch ≤ 57) ∧ s.2.2.1 < 6 then some (1, 0, s.2.2.1 + 1, 0, s.2.2.2.2) else if ch = 58 then some (2, 0, 0, 0, s.2.2.2.2) else none)
  else if s.1 = 2 then ahd ch s.2.1 s.2.2.2.2
  else if s.1 = 3 then bh ch s.2.1 s.2.2.2.2
  else if s.1 = 4 then (if (48 ≤ ch ∧ ch ≤ 57) ∧ s.2.2.1 < 3 then some (4, s.2.1, s.2.2.1 + 1, 10 * s.2.2.2.1 + (ch - 48), s.2.2.2.2) else if 0 < s.2.2.1 ∧ s.2.2.2.1 ≤ 100 then bh ch s.2.1 s.2.2.2.2 else none)
  else (if (48 ≤ ch ∧ ch ≤ 57) ∧ s.2.2.1 < 2 then some (5, s.2.1, s.2.2.1 + 1, 10 * s.2.2.2.1 + (ch - 48), s.2.2.2.2) else if 0 < s.2.2.1 ∧ s.2.2.2.1 ≤ 15 then bh ch s.2.1 s.2.2.2.2 else none)
theorem nx0 (dp ct vl rw ch : Nat) : nx (0, dp, ct, vl, rw) ch = (if (48 ≤ ch ∧ ch ≤ 57) ∧ rw < 20 then some (1, 0, 1, 0, rw) else none) := rfl
theorem nx1 (dp ct vl rw ch : Nat) : nx (1, dp, ct, vl, rw) ch = (if (48 ≤ ch ∧ ch ≤ 57) ∧ ct < 6 then some (1, 0, ct + 1, 0, rw) else if ch = 58 then some (2, 0, 0, 0, rw) else none) := rfl
theorem nx2 (dp ct vl rw ch : Nat) : nx (2, dp, ct, vl, rw) ch = ahd ch dp rw := rfl
theorem nx3 (dp ct vl rw ch : Nat) : nx (3, dp, ct, vl, rw) ch = bh ch dp rw := rfl
theorem nx4 (dp ct vl rw ch : Nat) : nx (4, dp, ct, vl, rw) ch = (if (48 ≤ ch ∧ ch ≤ 57) ∧ ct < 3 then some (4, dp, ct + 1, 10 * vl + (ch - 48), rw) else if 0 < ct ∧ vl ≤ 100 then bh ch dp rw else none) := rfl
theorem nx5 (dp ct vl rw ch : Nat) : nx (5, dp, ct, vl, rw) ch = (if (48 ≤ ch ∧ ch ≤ 57) ∧ ct < 2 then some (5, dp, ct + 1, 10 * vl + (ch - 48), rw) else if 0 < ct ∧ vl ≤ 15 then bh ch dp rw else none) := rfl
def run (c : Nat → Nat) : Nat → Option S5
  | 0 => some (0, 0, 0, 0, 0)
  | p + 1 => (run c p).bind (fun s => nx s (c p))
def AT (c : Nat → Nat) (p : Nat) (s : S5) : Prop := run c p = some s
theorem at0 (c : Nat → Nat) : AT c 0 (0, 0, 0, 0, 0) := rfl
theorem at_s {c : Nat → Nat} {p : Nat} {s s' : S5} (h : AT c p s) (hn : nx s (c p) = some s') : AT c (p + 1) s' := by
  unfold AT at *
  rw [run, h]
  exact hn
theorem at_inv {c : Nat → Nat} {p : Nat} {s' : S5} (h : AT c (p + 1) s') : ∃ s, AT c p s ∧ nx s (c p) = some s' := by
  unfold AT at *
  rw [run] at h
  cases hr : run c p with
  | none => rw [hr] at h; cases h
  | some s => rw [hr] at h; exact ⟨s, rfl, h⟩
def stuck (c : Nat → Nat) (a p : Nat) : Prop := ∃ s, AT c p s ∧ p ≤ a ∧ (p = a → s.1 ≠ 0 ∨ s.2.2.2.2 = 0) ∧ (p < a → nx s (c p) = none)
def valg (c : Nat → Nat) : Nat → Nat → Nat → Nat
  | 0, v, _ => v
  | e + 1, v, p => valg c e (10 * v + (c p - 48)) (p + 1)
def valf (c : Nat → Nat) (v p e : Nat) : Nat := valg c e v p
theorem valf_0 (c : Nat → Nat) (v p : Nat) : valf c v p 0 = v := rfl
theorem valf_s (c : Nat → Nat) (v p e : Nat) : valf c v p (e + 1) = valf c (10 * v + (c p - 48)) (p + 1) e := by simp only [valf, valg]
theorem valf_lt {c : Nat → Nat} (e : Nat) : ∀ (v p : Nat), (∀ j, j < e → dig (c (p + j))) → valf c v p e < (v + 1) * 10 ^ e := by
  induction e with
  | zero => intro v p _; rw [valf_0, Nat.pow_zero]; omega
  | succ e ih =>
    intro v p h
    have h0 := h 0 (by omega)
    have h1 := ih (10 * v + (c p - 48)) (p + 1) (fun j hj => by rw [show p + 1 + j = p + (j + 1) by omega]; exact h (j + 1) (by omega))
    rw [valf_s]
    refine Nat.lt_of_lt_of_le h1 ?_
    rw [Nat.pow_succ, Nat.mul_comm (10 ^ e) 10, ← Nat.mul_assoc]
    refine Nat.mul_le_mul_right _ ?_
    unfold dig at h0
    simp only [Nat.add_zero] at h0
    omega
theorem p_sign {c : Nat → Nat} {a : Nat} {tsg : Nat → Int32} (ha : a ≤ 300) (hc : ∀ j, j < a → tsg j = nI (c j) ∧ c j ≤ 126) {ch p : Nat} (hch : ch < 2 ^ 31) (hp : p ≤ a) : (p < a ∧ c p = ch ∧ m_Text_passesSign (nI ch) (nI a) tsg (nI p) = some (true, nI (p + 1))) ∨ (¬ (p < a ∧ c p = ch) ∧ m_Text_passesSign (nI ch) (nI a) tsg (nI p) = some (false, nI p)) := by
  unfold m_Text_passesSign
  by_cases h1 : p = a
  · rw [if_pos (by rw [i_le (by omega) (by omega)]; omega)]
    exact Or.inr ⟨by omega, rfl⟩
  · obtain ⟨e1, e2⟩ := hc p (by omega)
    rw [if_neg (by rw [i_le (by omega) (by omega)]; omega), ix_ok (by omega) (by omega), clI (by omega), e1, nI_1]
    simp only [i_eq (show c p < 2 ^ 31 by omega) hch]
    by_cases h2 : c p = ch
    · rw [if_pos h2]; exact Or.inl ⟨by omega, h2, rfl⟩
    · rw [if_neg h2]; exact Or.inr ⟨fun h => h2 h.2, rfl⟩
theorem or_dig {ch : Nat} (h : ch < 2 ^ 31) : m_Or_isDigit (nI ch) = some (decide (48 ≤ ch ∧ ch ≤ 57)) := by
  unfold m_Or_isDigit
  rw [gd32, nI_toInt h, ti48, ti57]
  congr 1
  apply decide_eq_decide.mpr
  omega
theorem p_digs {c : Nat → Nat} {a : Nat} {tsg : Nat → Int32} (ha : a ≤ 300) (hc : ∀ j, j < a → tsg j = nI (c j) ∧ c j ≤ 126) {lim mx : Nat} (hl : lim < 2 ^ 31) : ∀ (d n i v p : Nat), i + d = lim → d < n → p ≤ a → ∃ e, e ≤ d ∧ p + e ≤ a ∧ (∀ j, j < e → dig (c (p + j))) ∧ (e = d ∨ p + e = a ∨ ¬ dig (c (p + e))) ∧ k_Text_passesDigits_5 (nI a) tsg (nI lim) (nI mx) n (nI i) (nI v) (nI p) = k_Text_passesDigits_72 (nI a) tsg (nI lim) (nI mx) (nI (i + e)) (nI (valf c v p e)) (nI (p + e)) := by
  intro d
  induction d with
  | zero =>
    intro n i v p hi hn hp
    obtain ⟨n, rfl⟩ : ∃ k, n = k + 1 := ⟨n - 1, by omega⟩
    rw [k_Text_passesDigits_5_s, if_pos (by rw [i_le (by omega) (by omega)]; omega)]
    exact ⟨0, by omega, by omega, fun j hj => absurd hj (by omega), Or.inl rfl, rfl⟩
  | succ d ih =>
    intro n i v p hi hn hp
    obtain ⟨n, rfl⟩ : ∃ k, n = k + 1 := ⟨n - 1, by omega⟩
    rw [k_Text_passesDigits_5_s, if_neg (by rw [i_le (by omega) (by omega)]; omega)]
    by_cases h1 : p = a
    · rw [if_pos (by rw [i_le (by omega) (by omega)]; omega)]
      exact ⟨0, by omega, by omega, fun j hj => absurd hj (by omega), Or.inr (Or.inl (by omega)), rfl⟩
    · obtain ⟨e1, e2⟩ := hc p (by omega)
      rw [if_neg (by rw [i_le (by omega) (by omega)]; omega), ix_ok (by omega) (by omega), clI (by omega), e1, or_dig (by omega), e_bd1, ix_ok (by omega) (by omega)]
      by_cases h2 : 48 ≤ c p ∧ c p ≤ 57
      · rw [gT h2, nI_1, nI_1, li10, li48, pk_mul, pk_sub h2.1, nI_add, Nat.mul_comm v 10]
        obtain ⟨e, h3, h4, h5, h6, h7⟩ := ih n (i + 1) (10 * v + (c p - 48)) (p + 1) (by omega) (by omega) (by omega)
        refine ⟨e + 1, by omega, by omega, fun j hj => ?_, ?_, ?_⟩
        · cases j with
          | zero => exact h2
          | succ j => have := h5 j (by omega); rw [show p + (j + 1) = p + 1 + j by omega]; exact this
        · rw [show p + (e + 1) = p + 1 + e by omega]
          rcases h6 with h6 | h6 | h6
          · exact Or.inl (by omega)
          · exact Or.inr (Or.inl h6)
          · exact Or.inr (Or.inr h6)
        · rw [h7, show i + 1 + e = i + (e + 1) by omega, show p + 1 + e = p + (e + 1) by omega]
          rfl
      · rw [gF h2]
        exact ⟨0, by omega, by omega, fun j hj => absurd hj (by omega), Or.inr (Or.inr (by rw [Nat.add_zero]; exact h2)), rfl⟩
theorem p_digits {c : Nat → Nat} {a : Nat} {tsg : Nat → Int32} (ha : a ≤ 300) (hc : ∀ j, j < a → tsg j = nI (c j) ∧ c j ≤ 126) {lim mx p : Nat} (hl : lim ≤ 6) (hm : mx < 2 ^ 31) (hp : p ≤ a) : ∃ e, e ≤ lim ∧ p + e ≤ a ∧ (∀ j, j < e → dig (c (p + j))) ∧ (e = lim ∨ p + e = a ∨ ¬ dig (c (p + e))) ∧ m_Text_passesDigits (nI lim) (nI mx) (nI a) tsg (nI p) = some (decide (0 < e ∧ valf c 0 p e ≤ mx), nI (p + e)) := by
  obtain ⟨e, h1, h2, h3, h4, h5⟩ := p_digs ha hc (lim := lim) (mx := mx) (by omega) lim 2000 0 0 p (by omega) (by omega) hp
  refine ⟨e, h1, h2, h3, h4, ?_⟩
  unfold m_Text_passesDigits
  rw [li0, h5]
  have hv := valf_lt e 0 p h3
  have hv2 : valf c 0 p e < 2 ^ 31 := by
    have : 10 ^ e ≤ 10 ^ 6 := Nat.pow_le_pow_right (by omega) (by omega)
    omega
  unfold k_Text_passesDigits_72
  simp only [li0, i_le (show 0 + e < 2 ^ 31 by omega) (show 0 < 2 ^ 31 by omega), i_lt hm hv2]
  by_cases h6 : 0 < e
  · rw [if_neg (by omega)]
    by_cases h7 : valf c 0 p e ≤ mx
    · rw [if_neg (by omega), decide_eq_true ⟨h6, h7⟩]
    · rw [if_pos (by omega), decide_eq_false (by omega)]
  · rw [if_pos (by omega), decide_eq_false (by omega)]
theorem at_d4 {c : Nat → Nat} : ∀ (e p dp i v rw : Nat), AT c p (4, dp, i, v, rw) → (∀ j, j < e → dig (c (p + j))) → i + e ≤ 3 → AT c (p + e) (4, dp, i + e, valf c v p e, rw)
  | 0, p, dp, i, v, rw, h, _, _ => h
  | e + 1, p, dp, i, v, rw, h, hd, hi => by
    have h0 := hd 0 (by omega)
    have h1 := at_d4 e (p + 1) dp (i + 1) (10 * v + (c p - 48)) rw (at_s h (by rw [nx4, if_pos ⟨h0, by omega⟩])) (fun j hj => by rw [show p + 1 + j = p + (j + 1) by omega]; exact hd (j + 1) (by omega)) (by omega)
    rw [show p + (e + 1) = p + 1 + e by omega, show i + (e + 1) = i + 1 + e by omega]
    exact h1
theorem at_d5 {c : Nat → Nat} : ∀ (e p dp i v rw : Nat), AT c p (5, dp, i, v, rw) → (∀ j, j < e → dig (c (p + j))) → i + e ≤ 2 → AT c (p + e) (5, dp, i + e, valf c v p e, rw)
  | 0, p, dp, i, v, rw, h, _, _ => h
  | e + 1, p, dp, i, v, rw, h, hd, hi => by
    have h0 := hd 0 (by omega)
    have h1 := at_d5 e (p + 1) dp (i + 1) (10 * v + (c p - 48)) rw (at_s h (by rw [nx5, if_pos ⟨h0, by omega⟩])) (fun j hj => by rw [show p + 1 + j = p + (j + 1) by omega]; exact hd (j + 1) (by omega)) (by omega)
    rw [show p + (e + 1) = p + 1 + e by omega, show i + (e + 1) = i + 1 + e by omega]
    exact h1
theorem at_d1 {c : Nat → Nat} : ∀ (e p i rw : Nat), AT c p (1, 0, i, 0, rw) → (∀ j, j < e → dig (c (p + j))) → i + e ≤ 6 → AT c (p + e) (1, 0, i + e, 0, rw)
  | 0, p, i, rw, h, _, _ => h
  | e + 1, p, i, rw, h, hd, hi => by
    have h0 := hd 0 (by omega)
    have h1 := at_d1 e (p + 1) (i + 1) rw (at_s h (by rw [nx1, if_pos ⟨h0, by omega⟩])) (fun j hj => by rw [show p + 1 + j = p + (j + 1) by omega]; exact hd (j + 1) (by omega)) (by omega)
    rw [show p + (e + 1) = p + 1 + e by omega, show i + (e + 1) = i + 1 + e by omega]
    exact h1
def BR (c : Nat → Nat) (a p : Nat) (s : S5) (dp rw : Nat) : Prop := s.1 ≠ 0 ∧ (p < a → nx s (c p) = bh (c p) dp rw)
theorem p_factor {c : Nat → Nat} {a : Nat} {tsg : Nat → Int32} (ha : a ≤ 300) (hc : ∀ j, j < a → tsg j = nI (c j) ∧ c j ≤ 126) {p dp rw : Nat} (hp : p ≤ a) (hA : AT c p (2, dp, 0, 0, rw)) (hno : p < a → c p = 40 → 8 ≤ dp) :
    (∃ p' s, m_Text_passesFactor (nI a) tsg (nI p) = some (true, nI p') ∧ p < p' ∧ p' ≤ a ∧ AT c p' s ∧ BR c a p' s dp rw) ∨ (∃ p', m_Text_passesFactor (nI a) tsg (nI p) = some (false, nI p') ∧ stuck c a p') := by
  unfold m_Text_passesFactor
  rw [li86, li80, li87, li67, li72, li83]
  rcases p_sign ha hc (ch := 86) (p := p) (by omega) hp with ⟨h1, h2, h3⟩ | ⟨h2, h3⟩
  · rw [h3, e_bd2, gt]
    obtain ⟨e, g1, g2, g3, g4, g5⟩ := p_digits ha hc (lim := 3) (mx := 100) (p := p + 1) (by omega) (by omega) (by omega)
    rw [li3, li100, g5, e_bd2]
    have hA4 : AT c (p + 1) (4, dp, 0, 0, rw) := at_s hA (by rw [nx2, h2]; rfl)
    have hA5 := at_d4 e (p + 1) dp 0 0 rw hA4 g3 (by omega)
    rw [Nat.zero_add] at hA5
    by_cases hok : 0 < e ∧ valf c 0 (p + 1) e ≤ 100
    · rw [decide_eq_true hok]
      refine Or.inl ⟨p + 1 + e, _, rfl, by omega, by omega, hA5, by simp, fun hlt => ?_⟩
      rw [nx4, if_neg (fun h => by rcases g4 with g | g | g; · omega
                                   · omega
                                   · exact g h.1), if_pos hok]
    · rw [decide_eq_false hok]
      refine Or.inr ⟨p + 1 + e, rfl, _, hA5, g2, fun _ => Or.inl (by simp), fun hlt => ?_⟩
      rw [nx4, if_neg (fun h => by rcases g4 with g | g | g; · omega
                                   · omega
                                   · exact g h.1), if_neg hok]
  · rw [h3, e_bd2, gf]
    rcases p_sign ha hc (ch := 80) (p := p) (by omega) hp with ⟨h1, h4, h5⟩ | ⟨h4, h5⟩
    · rw [h5, e_bd2, gt]
      obtain ⟨e, g1, g2, g3, g4, g5⟩ := p_digits ha hc (lim := 2) (mx := 15) (p := p + 1) (by omega) (by omega) (by omega)
      rw [li2, li15, g5, e_bd2]
      have hA4 : AT c (p + 1) (5, dp, 0, 0, rw) := at_s hA (by rw [nx2, h4]; rfl)
      have hA5 := at_d5 e (p + 1) dp 0 0 rw hA4 g3 (by omega)
      rw [Nat.zero_add] at hA5
      by_cases hok : 0 < e ∧ valf c 0 (p + 1) e ≤ 15
      · rw [decide_eq_true hok]
        refine Or.inl ⟨p + 1 + e, _, rfl, by omega, by omega, hA5, by simp, fun hlt => ?_⟩
        rw [nx5, if_neg (fun h => by rcases g4 with g | g | g; · omega
                                     · omega
                                     · exact g h.1), if_pos hok]
      · rw [decide_eq_false hok]
        refine Or.inr ⟨p + 1 + e, rfl, _, hA5, g2, fun _ => Or.inl (by simp), fun hlt => ?_⟩
        rw [nx5, if_neg (fun h => by rcases g4 with g | g | g; · omega
                                     · omega
                                     · exact g h.1), if_neg hok]
    · rw [h5, e_bd2, gf]
      have hgood : ∀ {ch : Nat}, p < a → c p = ch → ahd ch dp rw = some (3, dp, 0, 0, rw) → ∃ p' s, some (true, nI (p + 1)) = some (true, nI p') ∧ p < p' ∧ p' ≤ a ∧ AT c p' s ∧ BR c a p' s dp rw := by
        intro ch hpa hcp hn
        exact ⟨p + 1, (3, dp, 0, 0, rw), rfl, by omega, by omega, at_s hA (by rw [nx2, hcp]; exact hn), by simp, fun _ => nx3 _ _ _ _ _⟩
      rcases p_sign ha hc (ch := 87) (p := p) (by omega) hp with ⟨h1, h6, h7⟩ | ⟨h6, h7⟩
      · rw [h7, e_bd2, gt]; exact Or.inl (hgood h1 h6 rfl)
      · rw [h7, e_bd2, gf]
        rcases p_sign ha hc (ch := 67) (p := p) (by omega) hp with ⟨h1, h8, h9⟩ | ⟨h8, h9⟩
        · rw [h9, e_bd2, gt]; exact Or.inl (hgood h1 h8 rfl)
        · rw [h9, e_bd2, gf]
          rcases p_sign ha hc (ch := 72) (p := p) (by omega) hp with ⟨h1, h10, h11⟩ | ⟨h10, h11⟩
          · rw [h11, e_bd2, gt]; exact Or.inl (hgood h1 h10 rfl)
          · rw [h11, e_bd2, gf]
            rcases p_sign ha hc (ch := 83) (p := p) (by omega) hp with ⟨h1, h12, h13⟩ | ⟨h12, h13⟩
            · rw [h13, e_bd2, gt]; exact Or.inl (hgood h1 h12 rfl)
            · rw [h13, e_bd2, gf]
              refine Or.inr ⟨p, rfl, _, hA, hp, fun _ => Or.inl (by simp), fun hlt => ?_⟩
              have := hno hlt
              rw [nx2]
              unfold ahd
              rw [if_neg (by omega), if_neg (by omega), if_neg (by omega), if_neg (by omega), if_neg (by omega), if_neg (by omega), if_neg (by omega)]
def RES (c : Nat → Nat) (a p rw : Nat) (o : Option (Bool × Int32)) : Prop := (∃ p', o = some (true, nI p') ∧ p < p' ∧ p' ≤ a ∧ AT c p' (0, 0, 0, 0, rw + 1)) ∨ (∃ p', o = some (false, nI p') ∧ stuck c a p')
def RES3 (c : Nat → Nat) (a p rw x2 : Nat) (Ko : Int32 → Int32 → Int32 → Option (Bool × Int32)) (o : Option (Bool × Int32)) : Prop := RES c a p rw o ∨ ∃ p' dp', o = Ko (nI dp') (nI (x2 + 1)) (nI p') ∧ p < p' ∧ p' ≤ a ∧ dp' ≤ 8 ∧ AT c p' (2, dp', 0, 0, rw)
theorem RES3_mono {c : Nat → Nat} {a : Nat} {p q rw x2 : Nat} {Ko : Int32 → Int32 → Int32 → Option (Bool × Int32)} {o : Option (Bool × Int32)} (h : RES3 c a q rw x2 Ko o) (hq : p ≤ q) : RES3 c a p rw x2 Ko o := by
  rcases h with (⟨p', h1, h2, h3, h4⟩ | h) | ⟨p', dp', h1, h2, h3⟩
  · exact Or.inl (Or.inl ⟨p', h1, by omega, h3, h4⟩)
  · exact Or.inl (Or.inr h)
  · exact Or.inr ⟨p', dp', h1, by omega, h3⟩
theorem p_76 {c : Nat → Nat} {a : Nat} {tsg : Nat → Int32} (ha : a ≤ 300) (hc : ∀ j, j < a → tsg j = nI (c j) ∧ c j ≤ 126) {p dp rw x2 : Nat} {s : S5} {Ko : Int32 → Int32 → Int32 → Option (Bool × Int32)} (hp : p ≤ a) (hdp : dp ≤ 8) (hA : AT c p s) (hB : BR c a p s dp rw) (h41 : p < a → c p = 41 → dp = 0) (h59 : p < a → c p = 59 → 0 < dp) : RES3 c a p rw x2 Ko (k_Text_passesRule_76 (nI a) tsg Ko (nI dp) (nI x2) (nI p)) := by
  unfold k_Text_passesRule_76
  rw [li38, li124, nI_1]
  rcases p_sign ha hc (ch := 38) (p := p) (by omega) hp with ⟨h1, h2, h3⟩ | ⟨h2, h3⟩
  · rw [h3, e_bd2, gt]
    exact Or.inr ⟨p + 1, dp, rfl, by omega, by omega, hdp, at_s hA (by rw [hB.2 h1, h2]; rfl)⟩
  · rw [h3, e_bd2, gf]
    rcases p_sign ha hc (ch := 124) (p := p) (by omega) hp with ⟨h1, h4, h5⟩ | ⟨h4, h5⟩
    · rw [h5, e_bd2, gt]
      exact Or.inr ⟨p + 1, dp, rfl, by omega, by omega, hdp, at_s hA (by rw [hB.2 h1, h4]; rfl)⟩
    · rw [h5, e_bd2, gf]
      refine Or.inl (Or.inr ⟨p, rfl, s, hA, hp, fun _ => Or.inl hB.1, fun hlt => ?_⟩)
      have g1 := h41 hlt
      have g2 := h59 hlt
      rw [hB.2 hlt]
      unfold bh
      rw [if_neg (by omega), if_neg (by omega), if_neg (by omega), if_neg (by omega)]
theorem p_61 {c : Nat → Nat} {a : Nat} {tsg : Nat → Int32} (ha : a ≤ 300) (hc : ∀ j, j < a → tsg j = nI (c j) ∧ c j ≤ 126) {p dp rw x2 : Nat} {s : S5} {Ko : Int32 → Int32 → Int32 → Option (Bool × Int32)} (hp : p ≤ a) (hdp : dp ≤ 8) (hA : AT c p s) (hB : BR c a p s dp rw) (h41 : p < a → c p = 41 → dp = 0) : RES3 c a p rw x2 Ko (k_Text_passesRule_61 (nI a) tsg Ko (nI dp) (nI x2) (nI p)) := by
  unfold k_Text_passesRule_61
  rw [li59]
  by_cases h0 : dp = 0
  · subst h0
    rw [if_pos li0.symm]
    rcases p_sign ha hc (ch := 59) (p := p) (by omega) hp with ⟨h1, h2, h3⟩ | ⟨h2, h3⟩
    · rw [h3, e_bd2, gt]
      exact Or.inl (Or.inl ⟨p + 1, rfl, by omega, by omega, at_s hA (by rw [hB.2 h1, h2]; rfl)⟩)
    · rw [h3, e_bd2, gf]
      exact p_76 ha hc hp hdp hA hB h41 (fun h1 h => absurd ⟨h1, h⟩ h2)
  · rw [if_neg (by rw [li0, i_eq (by omega) (by omega)]; exact h0)]
    exact p_76 ha hc hp hdp hA hB h41 (fun _ _ => by omega)
theorem p_42 {c : Nat → Nat} {a : Nat} {tsg : Nat → Int32} (ha : a ≤ 300) (hc : ∀ j, j < a → tsg j = nI (c j) ∧ c j ≤ 126) {rw x2 : Nat} {Ko : Int32 → Int32 → Int32 → Option (Bool × Int32)} : ∀ (dp n p : Nat) (s : S5), dp ≤ 8 → dp < n → p ≤ a → AT c p s → BR c a p s dp rw → RES3 c a p rw x2 Ko (k_Text_passesRule_42 (nI a) tsg Ko n (nI dp) (nI x2) (nI p)) := by
  intro dp
  induction dp with
  | zero =>
    intro n p s hdp hn hp hA hB
    obtain ⟨n, rfl⟩ : ∃ k, n = k + 1 := ⟨n - 1, by omega⟩
    rw [k_Text_passesRule_42_s, if_pos (by decide)]
    exact p_61 ha hc hp hdp hA hB (fun _ _ => rfl)
  | succ dp ih =>
    intro n p s hdp hn hp hA hB
    obtain ⟨n, rfl⟩ : ∃ k, n = k + 1 := ⟨n - 1, by omega⟩
    rw [k_Text_passesRule_42_s, if_neg (nI_nle (by omega) (by omega)), li41]
    rcases p_sign ha hc (ch := 41) (p := p) (by omega) hp with ⟨h1, h2, h3⟩ | ⟨h2, h3⟩
    · rw [h3, e_bd2, gt, pk_m1]
      refine RES3_mono (ih n (p + 1) (3, dp, 0, 0, rw) (by omega) (by omega) (by omega) (at_s hA (by rw [hB.2 h1, h2]; rfl)) ⟨by simp, fun _ => nx3 _ _ _ _ _⟩) (by omega)
    · rw [h3, e_bd2, gf]
      exact p_61 ha hc hp hdp hA hB (fun h1 h => absurd ⟨h1, h⟩ h2)
theorem p_12 {c : Nat → Nat} {a : Nat} {tsg : Nat → Int32} (ha : a ≤ 300) (hc : ∀ j, j < a → tsg j = nI (c j) ∧ c j ≤ 126) {rw x2 : Nat} {Ko : Int32 → Int32 → Int32 → Option (Bool × Int32)} : ∀ (d n dp p : Nat), dp + d = 8 → d < n → p ≤ a → AT c p (2, dp, 0, 0, rw) → RES3 c a p rw x2 Ko (k_Text_passesRule_12 (nI a) tsg Ko n (nI dp) (nI x2) (nI p)) := by
  have fin : ∀ {dp p : Nat}, dp ≤ 8 → p ≤ a → AT c p (2, dp, 0, 0, rw) → (p < a → c p = 40 → 8 ≤ dp) → RES3 c a p rw x2 Ko (bd2 (m_Text_passesFactor (nI a) tsg (nI p)) (fun r_34 tpl_34 => if (bI r_34) = 0 then (some (false, tpl_34)) else (k_Text_passesRule_42 (nI a) tsg Ko 2000 (nI dp) (nI x2) tpl_34))) := by
    intro dp p hdp hp hA hno
    rcases p_factor ha hc hp hA hno with ⟨p', s, h1, h2, h3, h4, h5⟩ | ⟨p', h1, h2⟩
    · rw [h1, e_bd2, gt]
      exact RES3_mono (p_42 ha hc dp 2000 p' s hdp (by omega) h3 h4 h5) (by omega)
    · rw [h1, e_bd2, gf]
      exact Or.inl (Or.inr ⟨p', rfl, h2⟩)
  intro d
  induction d with
  | zero =>
    intro n dp p hd hn hp hA
    obtain ⟨n, rfl⟩ : ∃ k, n = k + 1 := ⟨n - 1, by omega⟩
    rw [k_Text_passesRule_12_s, li8, if_pos (by rw [i_le (by omega) (by omega)]; omega)]
    exact fin (by omega) hp hA (fun _ _ => by omega)
  | succ d ih =>
    intro n dp p hd hn hp hA
    obtain ⟨n, rfl⟩ : ∃ k, n = k + 1 := ⟨n - 1, by omega⟩
    rw [k_Text_passesRule_12_s, li8, if_neg (by rw [i_le (by omega) (by omega)]; omega), li40]
    rcases p_sign ha hc (ch := 40) (p := p) (by omega) hp with ⟨h1, h2, h3⟩ | ⟨h2, h3⟩
    · rw [h3, e_bd2, gt, nI_1]
      refine RES3_mono (ih n (dp + 1) (p + 1) (by omega) (by omega) (by omega) (at_s hA (by rw [nx2, h2]; unfold ahd; rw [if_neg (by omega), if_neg (by omega), if_neg (by omega), if_neg (by omega), if_neg (by omega), if_neg (by omega), if_pos (by omega)]))) (by omega)
    · rw [h3, e_bd2, gf]
      exact fin (by omega) hp hA (fun h1 h => absurd ⟨h1, h⟩ h2)
theorem p_4 {c : Nat → Nat} {a : Nat} {tsg : Nat → Int32} (ha : a ≤ 300) (hc : ∀ j, j < a → tsg j = nI (c j) ∧ c j ≤ 126) {rw : Nat} : ∀ (d n dp x2 p : Nat), p + d = a → d < n → x2 + 2 ≤ p → dp ≤ 8 → AT c p (2, dp, 0, 0, rw) → RES c a p rw (k_Text_passesRule_4 (nI a) tsg n (nI dp) (nI x2) (nI p)) := by
  intro d
  induction d using Nat.strongRecOn with
  | ind d ih =>
    intro n dp x2 p hd hn hx hdp hA
    obtain ⟨n, rfl⟩ : ∃ k, n = k + 1 := ⟨n - 1, by omega⟩
    rw [k_Text_passesRule_4_s, if_neg (by rw [i_le (by omega) (by omega)]; omega)]
    rcases p_12 ha hc (rw := rw) (x2 := x2) (Ko := k_Text_passesRule_4 (nI a) tsg n) (8 - dp) 2000 dp p (by omega) (by omega) (by omega) hA with h | ⟨p', dp', h1, h2, h3, h4, h5⟩
    · exact h
    · rw [h1]
      rcases ih (a - p') (by omega) n dp' (x2 + 1) p' (by omega) (by omega) (by omega) h4 h5 with ⟨q, g1, g2, g3⟩ | g
      · exact Or.inl ⟨q, g1, by omega, g3⟩
      · exact Or.inr g
theorem p_row {c : Nat → Nat} {a : Nat} {tsg : Nat → Int32} (ha : a ≤ 300) (hc : ∀ j, j < a → tsg j = nI (c j) ∧ c j ≤ 126) {p rw : Nat} (hp : p ≤ a) (hpa : p < a ∨ rw = 0) (hr : rw < 20) (hA : AT c p (0, 0, 0, 0, rw)) : RES c a p rw (m_Text_passesRow (nI a) tsg (nI p)) := by
  unfold m_Text_passesRow
  obtain ⟨e, g1, g2, g3, g4, g5⟩ := p_digits ha hc (lim := 6) (mx := 999999) (p := p) (by omega) (by omega) hp
  rw [li6, li999999, g5, e_bd2]
  by_cases he : e = 0
  · subst he
    rw [gF (by omega)]
    refine Or.inr ⟨p, rfl, _, hA, hp, fun h => Or.inr (by simp; omega), fun hlt => ?_⟩
    rw [nx0, if_neg (fun h => by rcases g4 with g | g | g; · omega
                                 · omega
                                 · exact g h.1)]
  · have hv := valf_lt e 0 p g3
    have hv2 : 10 ^ e ≤ 10 ^ 6 := Nat.pow_le_pow_right (by omega) (by omega)
    rw [gT (by omega)]
    have hA1 : AT c (p + 1) (1, 0, 1, 0, rw) := at_s hA (by rw [nx0, if_pos ⟨g3 0 (by omega), hr⟩])
    have hA2 := at_d1 (e - 1) (p + 1) 1 rw hA1 (fun j hj => by rw [show p + 1 + j = p + (j + 1) by omega]; exact g3 (j + 1) (by omega)) (by omega)
    rw [show p + 1 + (e - 1) = p + e by omega, show 1 + (e - 1) = e by omega] at hA2
    rw [li58]
    rcases p_sign ha hc (ch := 58) (p := p + e) (by omega) g2 with ⟨h1, h2, h3⟩ | ⟨h2, h3⟩
    · rw [h3, e_bd2, gt]
      have hA3 : AT c (p + e + 1) (2, 0, 0, 0, rw) := at_s hA2 (by rw [nx1, h2]; rfl)
      unfold m_Text_passesRule
      rcases p_4 ha hc (rw := rw) (a - (p + e + 1)) 2000 0 0 (p + e + 1) (by omega) (by omega) (by omega) (by omega) hA3 with ⟨q, k1, k2, k3, k4⟩ | ⟨q, k1, k2⟩
      · rw [← li0] at k1
        rw [k1, e_bd2, gt]; exact Or.inl ⟨q, rfl, by omega, k3, k4⟩
      · rw [← li0] at k1
        rw [k1, e_bd2, gf]; exact Or.inr ⟨q, rfl, k2⟩
    · rw [h3, e_bd2, gf]
      refine Or.inr ⟨p + e, rfl, _, hA2, g2, fun h => Or.inl (by simp), fun hlt => ?_⟩
      rw [nx1, if_neg (fun h => by rcases g4 with g | g | g; · omega
                                   · omega
                                   · exact g h.1), if_neg (fun h => h2 ⟨hlt, h⟩)]
theorem p_rows {c : Nat → Nat} {a : Nat} {tsg : Nat → Int32} (ha : a ≤ 300) (hc : ∀ j, j < a → tsg j = nI (c j) ∧ c j ≤ 126) : ∀ (d n x1 p : Nat), x1 + d = 21 → d < n → 1 ≤ x1 → p ≤ a → (p < a ∨ x1 = 1) → AT c p (0, 0, 0, 0, x1 - 1) → (∃ k, 1 ≤ k ∧ k ≤ 20 ∧ k_Text_rowsOrWrongPlace_7 (nI a) tsg n (nI x1) (nI p) = some (nI k, nI a) ∧ AT c a (0, 0, 0, 0, k)) ∨ (∃ p', k_Text_rowsOrWrongPlace_7 (nI a) tsg n (nI x1) (nI p) = some ((-1) - nI p', nI p') ∧ stuck c a p') := by
  intro d
  induction d with
  | zero =>
    intro n x1 p hd hn h1 hp hpa hA
    obtain ⟨n, rfl⟩ : ∃ k, n = k + 1 := ⟨n - 1, by omega⟩
    rw [k_Text_rowsOrWrongPlace_7_s, li20, if_pos (by rw [i_lt (by omega) (by omega)]; omega)]
    refine Or.inr ⟨p, rfl, _, hA, hp, fun h => absurd h (by omega), fun hlt => ?_⟩
    rw [nx0, if_neg (by omega)]
  | succ d ih =>
    intro n x1 p hd hn h1 hp hpa hA
    obtain ⟨n, rfl⟩ : ∃ k, n = k + 1 := ⟨n - 1, by omega⟩
    rw [k_Text_rowsOrWrongPlace_7_s, li20, if_neg (by rw [i_lt (by omega) (by omega)]; omega)]
    rcases p_row ha hc hp (by omega) (by omega) hA with ⟨p', g1, g2, g3, g4⟩ | ⟨p', g1, g2⟩
    · rw [g1, e_bd2, gt, nI_1]
      simp only [i_eq (show p' < 2 ^ 31 by omega) (show a < 2 ^ 31 by omega)]
      rw [show x1 - 1 + 1 = x1 by omega] at g4
      by_cases h2 : p' = a
      · rw [if_pos h2, h2]
        exact Or.inl ⟨x1, h1, by omega, rfl, by rw [← h2]; exact g4⟩
      · rw [if_neg h2]
        exact ih n (x1 + 1) p' (by omega) (by omega) (by omega) g3 (by omega) (by simpa using g4)
    · rw [g1, e_bd2, gf]
      exact Or.inr ⟨p', rfl, g2⟩
theorem p_all {c : Nat → Nat} {a : Nat} {tsg : Nat → Int32} (ha : a ≤ 300) (hc : ∀ j, j < a → tsg j = nI (c j) ∧ c j ≤ 126) (tpl : Int32) : (∃ k, 1 ≤ k ∧ k ≤ 20 ∧ m_Text_rowsOrWrongPlace (nI a) tsg tpl = some (nI k, nI a) ∧ AT c a (0, 0, 0, 0, k)) ∨ (∃ p', m_Text_rowsOrWrongPlace (nI a) tsg tpl = some ((-1) - nI p', nI p') ∧ stuck c a p') :=
  p_rows ha hc 20 2000 1 0 (by omega) (by omega) (by omega) (by omega) (by omega) (at0 c)
