def dl (ch : Nat) : Int32 := if ch = 40 then 1 else if ch = 41 then (-1) else 0
def REL (s : S5) (X1 X2 X3 X4 X5 : Int32) : Prop := X1 = nI s.1 ∧ X2 = nI s.2.1 ∧ X5 = nI s.2.2.2.2 ∧ (s.1 = 1 → X3 = nI s.2.2.1) ∧ (4 ≤ s.1 → X3 = nI s.2.2.1 ∧ X4 = nI s.2.2.2.1)
def OKS (s : S5) : Prop := s.1 ≤ 5 ∧ s.2.1 ≤ 8 ∧ s.2.2.1 ≤ 6 ∧ s.2.2.2.2 ≤ 20 ∧ (s.1 ≠ 0 → s.2.2.2.2 < 20) ∧ (s.1 ≤ 1 → s.2.1 = 0) ∧ (4 ≤ s.1 → s.2.2.1 ≤ 3) ∧ (s.2.2.1 = 0 → s.2.2.2.1 = 0) ∧ (s.2.2.1 ≤ 1 → s.2.2.2.1 ≤ 9) ∧ (s.2.2.1 ≤ 2 → s.2.2.2.1 ≤ 99) ∧ s.2.2.2.1 ≤ 999
theorem ok_mk {md dp ct vl rw : Nat} (h1 : md ≤ 5) (h2 : dp ≤ 8) (h3 : ct ≤ 6) (h4 : rw ≤ 20) (h5 : md = 0 ∨ rw < 20) (h6 : 2 ≤ md ∨ dp = 0) (h7 : md < 4 ∨ ct ≤ 3) (h8 : ct ≠ 0 ∨ vl = 0) (h9 : 2 ≤ ct ∨ vl ≤ 9) (h10 : 3 ≤ ct ∨ vl ≤ 99) (h11 : vl ≤ 999) : OKS (md, dp, ct, vl, rw) :=
  ⟨h1, h2, h3, h4, fun h => h5.resolve_left h, fun h => h6.resolve_left (by simp only at h; omega), fun h => h7.resolve_left (by simp only at h; omega), fun h => h8.resolve_left (by simp only at h; omega), fun h => h9.resolve_left (by simp only at h; omega), fun h => h10.resolve_left (by simp only at h; omega), h11⟩
theorem ok_un {md dp ct vl rw : Nat} (h : OKS (md, dp, ct, vl, rw)) : md ≤ 5 ∧ dp ≤ 8 ∧ ct ≤ 6 ∧ rw ≤ 20 ∧ (md = 0 ∨ rw < 20) ∧ (2 ≤ md ∨ dp = 0) ∧ (md < 4 ∨ ct ≤ 3) ∧ (ct ≠ 0 ∨ vl = 0) ∧ (2 ≤ ct ∨ vl ≤ 9) ∧ (3 ≤ ct ∨ vl ≤ 99) ∧ vl ≤ 999 := by
  obtain ⟨h1, h2, h3, h4, h5, h6, h7, h8, h9, h10, h11⟩ := h
  simp only at h1 h2 h3 h4 h5 h6 h7 h8 h9 h10 h11
  refine ⟨h1, h2, h3, h4, ?_, ?_, ?_, ?_, ?_, ?_, h11⟩
  · by_cases h : md = 0
    · exact Or.inl h
    · exact Or.inr (h5 h)
  · by_cases h : md ≤ 1
    · exact Or.inr (h6 h)
    · exact Or.inl (by omega)
  · by_cases h : 4 ≤ md
    · exact Or.inr (h7 h)
    · exact Or.inl (by omega)
  · by_cases h : ct = 0
    · exact Or.inr (h8 h)
    · exact Or.inl h
  · by_cases h : ct ≤ 1
    · exact Or.inr (h9 h)
    · exact Or.inl (by omega)
  · by_cases h : ct ≤ 2
    · exact Or.inr (h10 h)
    · exact Or.inl (by omega)
theorem bh_some {ch dp rw : Nat} {s : S5} (h : bh ch dp rw = some s) : (s = (2, dp, 0, 0, rw) ∧ (ch = 38 ∨ ch = 124)) ∨ (s = (3, dp - 1, 0, 0, rw) ∧ ch = 41 ∧ 0 < dp) ∨ (s = (0, 0, 0, 0, rw + 1) ∧ ch = 59 ∧ dp = 0) := by
  unfold bh at h
  split at h
  · rename_i hc; cases h; exact Or.inl ⟨rfl, Or.inl hc⟩
  · split at h
    · rename_i hc; cases h; exact Or.inl ⟨rfl, Or.inr hc⟩
    · split at h
      · rename_i hc; cases h; exact Or.inr (Or.inl ⟨rfl, hc⟩)
      · split at h
        · rename_i hc; cases h; exact Or.inr (Or.inr ⟨rfl, hc⟩)
        · cases h
theorem ahd_some {ch dp rw : Nat} {s : S5} (h : ahd ch dp rw = some s) : (s = (3, dp, 0, 0, rw) ∧ (ch = 87 ∨ ch = 67 ∨ ch = 72 ∨ ch = 83)) ∨ (s = (4, dp, 0, 0, rw) ∧ ch = 86) ∨ (s = (5, dp, 0, 0, rw) ∧ ch = 80) ∨ (s = (2, dp + 1, 0, 0, rw) ∧ ch = 40 ∧ dp < 8) := by
  unfold ahd at h
  split at h
  · cases h; exact Or.inl ⟨rfl, by omega⟩
  · split at h
    · cases h; exact Or.inl ⟨rfl, by omega⟩
    · split at h
      · cases h; exact Or.inl ⟨rfl, by omega⟩
      · split at h
        · cases h; exact Or.inl ⟨rfl, by omega⟩
        · split at h
          · cases h; exact Or.inr (Or.inl ⟨rfl, by omega⟩)
          · split at h
            · cases h; exact Or.inr (Or.inr (Or.inl ⟨rfl, by omega⟩))
            · split at h
              · cases h; exact Or.inr (Or.inr (Or.inr ⟨rfl, by omega⟩))
              · cases h
theorem ok_bh {ch dp rw : Nat} {s : S5} (h : bh ch dp rw = some s) (h1 : dp ≤ 8) (h2 : rw < 20) : OKS s := by
  rcases bh_some h with ⟨rfl, _⟩ | ⟨rfl, _⟩ | ⟨rfl, _⟩ <;> exact ok_mk (by omega) (by omega) (by omega) (by omega) (by omega) (by omega) (by omega) (by omega) (by omega) (by omega) (by omega)
theorem ok_nx {s s' : S5} {ch : Nat} (h : OKS s) (hn : nx s ch = some s') : OKS s' := by
  obtain ⟨md, dp, ct, vl, rw⟩ := s
  have h := ok_un h
  have hmd : md = 0 ∨ md = 1 ∨ md = 2 ∨ md = 3 ∨ md = 4 ∨ md = 5 := by omega
  rcases hmd with rfl | rfl | rfl | rfl | rfl | rfl
  · rw [nx0] at hn
    split at hn
    · cases hn; exact ok_mk (by omega) (by omega) (by omega) (by omega) (by omega) (by omega) (by omega) (by omega) (by omega) (by omega) (by omega)
    · cases hn
  · rw [nx1] at hn
    split at hn
    · cases hn; exact ok_mk (by omega) (by omega) (by omega) (by omega) (by omega) (by omega) (by omega) (by omega) (by omega) (by omega) (by omega)
    · split at hn
      · cases hn; exact ok_mk (by omega) (by omega) (by omega) (by omega) (by omega) (by omega) (by omega) (by omega) (by omega) (by omega) (by omega)
      · cases hn
  · rw [nx2] at hn
    rcases ahd_some hn with ⟨rfl, _⟩ | ⟨rfl, _⟩ | ⟨rfl, _⟩ | ⟨rfl, _⟩ <;> exact ok_mk (by omega) (by omega) (by omega) (by omega) (by omega) (by omega) (by omega) (by omega) (by omega) (by omega) (by omega)
  · rw [nx3] at hn
    exact ok_bh hn (by omega) (by omega)
  · rw [nx4] at hn
    split at hn
    · cases hn; exact ok_mk (by omega) (by omega) (by omega) (by omega) (by omega) (by omega) (by omega) (by omega) (by omega) (by omega) (by omega)
    · split at hn
      · exact ok_bh hn (by omega) (by omega)
      · cases hn
  · rw [nx5] at hn
    split at hn
    · cases hn; exact ok_mk (by omega) (by omega) (by omega) (by omega) (by omega) (by omega) (by omega) (by omega) (by omega) (by omega) (by omega)
    · split at hn
      · exact ok_bh hn (by omega) (by omega)
      · cases hn
theorem ok_at {c : Nat → Nat} : ∀ {p : Nat} {s : S5}, AT c p s → OKS s := by
  intro p
  induction p with
  | zero => intro s h; cases h; exact ok_mk (by omega) (by omega) (by omega) (by omega) (by omega) (by omega) (by omega) (by omega) (by omega) (by omega) (by omega)
  | succ p ih =>
    intro s h
    obtain ⟨s0, h0, hn⟩ := at_inv h
    exact ok_nx (ih h0) hn
theorem md_dig {ch : Nat} (h : ch < 2 ^ 31) : m_Md_isDigit (nI ch) = some (decide (48 ≤ ch ∧ ch ≤ 57)) := or_dig h
theorem md_bh {ch dp rw : Nat} (h1 : ch < 2 ^ 31) (h2 : dp < 2 ^ 31) : (bh ch dp rw = none ∧ m_Md_behind (nI ch) (nI dp) = some (-1)) ∨ (∃ q dp' rw', bh ch dp rw = some (q, dp', 0, 0, rw') ∧ m_Md_behind (nI ch) (nI dp) = some (nI q) ∧ q ≠ 1 ∧ q < 4 ∧ nI dp + dl ch = nI dp' ∧ nI rw + (if q = 0 then 1 else 0) = nI rw') := by
  unfold m_Md_behind k_Md_behind_30 bh dl
  simp only [li0, li38, li124, li41, li59]
  simp only [i_eq h1 (show 38 < 2 ^ 31 by omega), i_eq h1 (show 124 < 2 ^ 31 by omega), i_eq h1 (show 41 < 2 ^ 31 by omega), i_eq h1 (show 59 < 2 ^ 31 by omega), i_le h2 (show 0 < 2 ^ 31 by omega), i_eq h2 (show 0 < 2 ^ 31 by omega)]
  by_cases c1 : ch = 38
  · subst c1
    exact Or.inr ⟨2, dp, rw, rfl, rfl, by omega, by omega, Int32.add_zero _, Int32.add_zero _⟩
  · rw [if_neg c1, if_neg c1]
    by_cases c2 : ch = 124
    · subst c2
      exact Or.inr ⟨2, dp, rw, rfl, rfl, by omega, by omega, Int32.add_zero _, Int32.add_zero _⟩
    · rw [if_neg c2, if_neg c2]
      by_cases c3 : ch = 41
      · subst c3
        by_cases c4 : dp = 0
        · subst c4
          exact Or.inl ⟨rfl, rfl⟩
        · right
          rw [if_pos (show 41 = 41 ∧ 0 < dp from ⟨rfl, by omega⟩), if_pos rfl, if_neg (by omega)]
          exact ⟨3, dp - 1, rw, rfl, rfl, by omega, by omega, sb_m1 (by omega), Int32.add_zero _⟩
      · rw [if_neg (fun h => c3 h.1), if_neg c3]
        by_cases c5 : ch = 59
        · subst c5
          by_cases c4 : dp = 0
          · subst c4
            exact Or.inr ⟨0, 0, rw + 1, rfl, rfl, by omega, by omega, Int32.add_zero _, nI_1 _⟩
          · rw [if_neg (fun h => c4 h.2), if_pos rfl, if_neg c4]
            exact Or.inl ⟨rfl, rfl⟩
        · rw [if_neg (fun h => c5 h.1), if_neg c5]
          exact Or.inl ⟨rfl, rfl⟩
theorem md_ah {ch dp rw : Nat} (h1 : ch < 2 ^ 31) (h2 : dp < 2 ^ 31) : (ahd ch dp rw = none ∧ m_Md_ahead (nI ch) (nI dp) = some (-1)) ∨ (∃ q dp', ahd ch dp rw = some (q, dp', 0, 0, rw) ∧ m_Md_ahead (nI ch) (nI dp) = some (nI q) ∧ 2 ≤ q ∧ q ≤ 5 ∧ nI dp + dl ch = nI dp') := by
  unfold m_Md_ahead ahd dl
  simp only [li87, li67, li72, li83, li86, li80, li40, li8]
  simp only [i_eq h1 (show 87 < 2 ^ 31 by omega), i_eq h1 (show 67 < 2 ^ 31 by omega), i_eq h1 (show 72 < 2 ^ 31 by omega), i_eq h1 (show 83 < 2 ^ 31 by omega), i_eq h1 (show 86 < 2 ^ 31 by omega), i_eq h1 (show 80 < 2 ^ 31 by omega), i_eq h1 (show 40 < 2 ^ 31 by omega), i_le (show 8 < 2 ^ 31 by omega) h2]
  by_cases c1 : ch = 87
  · subst c1; exact Or.inr ⟨3, dp, rfl, rfl, by omega, by omega, Int32.add_zero _⟩
  · rw [if_neg c1, if_neg c1]
    by_cases c2 : ch = 67
    · subst c2; exact Or.inr ⟨3, dp, rfl, rfl, by omega, by omega, Int32.add_zero _⟩
    · rw [if_neg c2, if_neg c2]
      by_cases c3 : ch = 72
      · subst c3; exact Or.inr ⟨3, dp, rfl, rfl, by omega, by omega, Int32.add_zero _⟩
      · rw [if_neg c3, if_neg c3]
        by_cases c4 : ch = 83
        · subst c4; exact Or.inr ⟨3, dp, rfl, rfl, by omega, by omega, Int32.add_zero _⟩
        · rw [if_neg c4, if_neg c4]
          by_cases c5 : ch = 86
          · subst c5; exact Or.inr ⟨4, dp, rfl, rfl, by omega, by omega, Int32.add_zero _⟩
          · rw [if_neg c5, if_neg c5]
            by_cases c6 : ch = 80
            · subst c6; exact Or.inr ⟨5, dp, rfl, rfl, by omega, by omega, Int32.add_zero _⟩
            · rw [if_neg c6, if_neg c6]
              by_cases c7 : ch = 40
              · subst c7
                by_cases c8 : 8 ≤ dp
                · rw [if_neg (by omega), if_pos rfl, if_pos c8]; exact Or.inl ⟨rfl, rfl⟩
                · rw [if_pos ⟨rfl, by omega⟩, if_pos rfl, if_neg c8]; exact Or.inr ⟨2, dp + 1, rfl, rfl, by omega, by omega, nI_1 _⟩
              · rw [if_neg (fun h => c7 h.1), if_neg c7]; exact Or.inl ⟨rfl, rfl⟩
theorem ite3 {α : Type} {P Q : Prop} [Decidable P] [Decidable Q] {A B : Option α} (h : ¬ (P ∧ ¬ Q)) : (if bI (decide P) = 0 then A else if Q then A else B) = A := by
  by_cases h1 : P
  · rw [gT h1, if_pos (Classical.byContradiction fun h2 => h ⟨h1, h2⟩)]
  · rw [gF h1]
theorem m1neg : ¬ (0 : Int32) ≤ -1 := by decide
theorem r_wrong {text : Nat → Int32} {th : Int32} {rows : Int32} {read : Nat → Int32} {begins : Nat → Int32} {n q : Nat} {X1 X2 X3 X4 X5 X7 sg : Int32} {tried : Nat → Int32} (hq : q < 2 ^ 31) : k_Md_read_23 text (n + 1) X1 X2 X3 X4 X5 (nI q) X7 th sg rows read begins tried = some ((-1) - nI q, th, 0, rows, read, begins, tried) := by
  rw [k_Md_read_23_s]
  unfold k_Md_read_325 k_Md_read_346 k_Md_read_348 k_Md_read_434
  simp only [if_pos (nI_pos' hq), ite_self]
theorem r_252w {text : Nat → Int32} {th : Int32} {rows : Int32} {read : Nat → Int32} {begins : Nat → Int32} {n p : Nat} {X1 X2 X3 X4 X5 CH sg : Int32} {tried : Nat → Int32} (hp : p < 2 ^ 31) : k_Md_read_252 text (k_Md_read_23 text (n + 1)) X1 X2 X3 X4 X5 (-1) (nI p) CH (-1) th sg rows read begins tried = some ((-1) - nI p, th, 0, rows, read, begins, tried) := by
  unfold k_Md_read_252 k_Md_read_264 k_Md_read_290 k_Md_read_304
  simp only [if_neg m1neg, r_wrong hp, ite_self]
theorem r_252g {text : Nat → Int32} {th : Int32} {rows : Int32} {read : Nat → Int32} {begins : Nat → Int32} {n p q ch : Nat} {X1 X2 X3 X4 X5 sg r : Int32} {tried : Nat → Int32} (hr : r = nI q) (hch : ch < 2 ^ 31) (hq : q < 2 ^ 31) : k_Md_read_252 text (k_Md_read_23 text n) X1 X2 X3 X4 X5 (-1) (nI p) (nI ch) r th sg rows read begins tried = k_Md_read_23 text n (nI q) (X2 + dl ch) X3 X4 (X5 + (if q = 0 then 1 else 0)) (-1) (nI (p + 1)) th sg rows read begins tried := by
  subst hr
  unfold k_Md_read_252 k_Md_read_264 k_Md_read_290 k_Md_read_304 dl
  have e1 : (nI q = 0) = (q = 0) := i_eq (b := 0) hq (by omega)
  have e2 : (nI ch = 40) = (ch = 40) := i_eq (b := 40) hch (by omega)
  have e3 : (nI ch = 41) = (ch = 41) := i_eq (b := 41) hch (by omega)
  simp only [if_pos (nI_pos' hq), e1, e2, e3, nI_1]
  by_cases h1 : q = 0 <;> by_cases h2 : ch = 40 <;> by_cases h3 : ch = 41 <;> simp only [h1, h2, h3, if_true, if_false] <;> rfl
theorem r_beh {text : Nat → Int32} {th rows : Int32} {read begins : Nat → Int32} {n p ch dp rw : Nat} {X1 X3 X4 sg : Int32} {tried : Nat → Int32} (hp : p < 2 ^ 31) (hch : ch < 2 ^ 31) (hdp : dp < 2 ^ 31) :
    ∃ r, m_Md_behind (nI ch) (nI dp) = some r ∧
    (∀ s', bh ch dp rw = some s' → ∃ X1' X2' X5', k_Md_read_252 text (k_Md_read_23 text (n + 1)) X1 (nI dp) X3 X4 (nI rw) (-1) (nI p) (nI ch) r th sg rows read begins tried = k_Md_read_23 text (n + 1) X1' X2' X3 X4 X5' (-1) (nI (p + 1)) th sg rows read begins tried ∧ REL s' X1' X2' X3 X4 X5') ∧
    (bh ch dp rw = none → k_Md_read_252 text (k_Md_read_23 text (n + 1)) X1 (nI dp) X3 X4 (nI rw) (-1) (nI p) (nI ch) r th sg rows read begins tried = some ((-1) - nI p, th, 0, rows, read, begins, tried)) := by
  rcases md_bh (ch := ch) (dp := dp) (rw := rw) hch hdp with ⟨h1, h2⟩ | ⟨q, dp', rw', h1, h2, h3, h4, h5, h6⟩
  · refine ⟨_, h2, fun s' h => (by rw [h1] at h; cases h), fun _ => r_252w hp⟩
  · refine ⟨_, h2, fun s' h => ?_, fun h => (by rw [h1] at h; cases h)⟩
    rw [h1] at h
    cases h
    refine ⟨_, _, _, r_252g rfl hch (by omega), rfl, h5, h6, fun h => absurd h h3, fun h => ?_⟩
    simp only at h
    omega
def RD (text : Nat → Int32) (a : Nat) (th rows : Int32) (read begins : Nat → Int32) (p : Nat) (X1 X2 X3 X4 X5 : Int32) (tried : Nat → Int32) : Option (Int32 × Int32 × Int32 × Int32 × (Nat → Int32) × (Nat → Int32) × (Nat → Int32)) := k_Md_read_23 text (2000 - p) X1 X2 X3 X4 X5 (-1) (nI p) th (nI a) rows read begins tried
theorem r_open {c : Nat → Nat} {a : Nat} {text : Nat → Int32} {th : Int32} {rows : Int32} {read : Nat → Int32} {begins : Nat → Int32} (ha : a ≤ 300) (hc : ∀ j, j < a → text j = nI (c j) ∧ c j ≤ 126) {p : Nat} {X1 X2 X3 X4 X5 : Int32} {tried : Nat → Int32} (hp : p < a) : RD text a th rows read begins p X1 X2 X3 X4 X5 tried = (if X1 = 0 then k_Md_read_65 text (k_Md_read_23 text (1999 - p)) X1 X2 X3 X4 X5 (-1) (nI p) (nI (c p)) (decide (48 ≤ c p ∧ c p ≤ 57)) (-1) true th (nI a) rows read begins tried else k_Md_read_65 text (k_Md_read_23 text (1999 - p)) X1 X2 X3 X4 X5 (-1) (nI p) (nI (c p)) (decide (48 ≤ c p ∧ c p ≤ 57)) (-1) false th (nI a) rows read begins tried) := by
  obtain ⟨e1, e2⟩ := hc p hp
  unfold RD
  rw [show 2000 - p = 1999 - p + 1 by omega, k_Md_read_23_s, if_neg (by rw [i_le (by omega) (by omega)]; omega), if_neg m1neg, ix_ok (by omega) (by omega), clI (by omega), e1, md_dig (by omega), e_bd1]
theorem r_step {c : Nat → Nat} {a : Nat} {text : Nat → Int32} {th rows : Int32} {read begins : Nat → Int32} (ha : a ≤ 300) (hc : ∀ j, j < a → text j = nI (c j) ∧ c j ≤ 126) {p : Nat} {s : S5} {X1 X2 X3 X4 X5 : Int32} {tried : Nat → Int32} (hp : p < a) (hs : OKS s) (hR : REL s X1 X2 X3 X4 X5) :
    (∀ s', nx s (c p) = some s' → ∃ X1' X2' X3' X4' X5', RD text a th rows read begins p X1 X2 X3 X4 X5 tried = RD text a th rows read begins (p + 1) X1' X2' X3' X4' X5' (if s.1 = 0 then upd tried s.2.2.2.2 (nI p) else tried) ∧ REL s' X1' X2' X3' X4' X5') ∧
    (nx s (c p) = none → ∃ tried', RD text a th rows read begins p X1 X2 X3 X4 X5 tried = some ((-1) - nI p, th, 0, rows, read, begins, tried')) := by
  obtain ⟨e1, e2⟩ := hc p hp
  rw [r_open ha hc hp]
  unfold RD
  rw [show 2000 - (p + 1) = 1998 - p + 1 by omega, show 1999 - p = 1998 - p + 1 by omega]
  obtain ⟨md, dp, ct, vl, rw⟩ := s
  obtain ⟨h1, h2, h5, h3, h4⟩ := hR
  have hs := ok_un hs
  simp only at h1 h2 h3 h4 h5
  subst h1; subst h2; subst h5
  have hmd : md = 0 ∨ md = 1 ∨ md = 2 ∨ md = 3 ∨ md = 4 ∨ md = 5 := by omega
  rcases hmd with rfl | rfl | rfl | rfl | rfl | rfl
  · rw [nx0, if_pos li0.symm]
    unfold k_Md_read_65 k_Md_read_97 k_Md_read_98
    rw [gt, ix_ok (by omega) (by omega), clI (by omega)]
    have hdp : dp = 0 := by omega
    subst hdp
    by_cases hd : 48 ≤ c p ∧ c p ≤ 57
    · rw [gT hd, li20]
      simp only [i_le (show 20 < 2 ^ 31 by omega) (show rw < 2 ^ 31 by omega)]
      by_cases hr : 20 ≤ rw
      · rw [if_pos hr, r_252w (by omega)]
        exact ⟨fun s' h => (by rw [if_neg (by omega)] at h; cases h), fun _ => ⟨_, rfl⟩⟩
      · rw [if_neg hr, r_252g li1 (by omega) (by omega)]
        refine ⟨fun s' h => ?_, fun h => (by rw [if_pos ⟨hd, by omega⟩] at h; cases h)⟩
        rw [if_pos ⟨hd, by omega⟩] at h
        cases h
        refine ⟨_, _, _, _, _, rfl, rfl, ?_, Int32.add_zero _, fun _ => rfl, fun h => absurd h (by simp only; omega)⟩
        unfold dl
        rw [if_neg (by omega), if_neg (by omega)]
        exact Int32.add_zero _
    · rw [gF hd, r_252w (by omega)]
      exact ⟨fun s' h => (by rw [if_neg (fun h => hd h.1)] at h; cases h), fun _ => ⟨_, rfl⟩⟩
  · rw [if_neg (show ¬ nI 1 = 0 by decide), nx1]
    have hX3 := h3 rfl
    subst hX3
    have hdp : dp = 0 := by omega
    subst hdp
    unfold k_Md_read_65 k_Md_read_125 k_Md_read_137
    rw [gf, if_pos li1.symm, li58, li6]
    simp only [i_eq (show c p < 2 ^ 31 by omega) (show 58 < 2 ^ 31 by omega), i_le (show 6 < 2 ^ 31 by omega) (show ct < 2 ^ 31 by omega), nI_1]
    by_cases hd : (48 ≤ c p ∧ c p ≤ 57) ∧ ct < 6
    · simp only [if_pos hd]
      rw [gT hd.1, if_neg (by omega), r_252g li1 (by omega) (by omega)]
      refine ⟨fun s' h => ?_, fun h => (by cases h)⟩
      cases h
      refine ⟨_, _, _, _, _, rfl, rfl, ?_, Int32.add_zero _, fun _ => rfl, fun h => absurd h (by simp only; omega)⟩
      unfold dl
      rw [if_neg (by omega), if_neg (by omega)]
      exact Int32.add_zero _
    · simp only [if_neg hd]
      rw [ite3 (show ¬ ((48 ≤ c p ∧ c p ≤ 57) ∧ ¬ 6 ≤ ct) by omega)]
      by_cases h58 : c p = 58
      · simp only [if_pos h58]
        rw [r_252g li2 (by omega) (by omega)]
        refine ⟨fun s' h => ?_, fun h => (by cases h)⟩
        cases h
        refine ⟨_, _, _, _, _, rfl, rfl, ?_, Int32.add_zero _, fun h => absurd h (by simp only; omega), fun h => absurd h (by simp only; omega)⟩
        unfold dl
        rw [if_neg (by omega), if_neg (by omega)]
        exact Int32.add_zero _
      · simp only [if_neg h58]
        rw [r_252w (by omega)]
        exact ⟨fun s' h => (by cases h), fun _ => ⟨_, rfl⟩⟩
  · rw [if_neg (show ¬ nI 2 = 0 by decide), nx2]
    unfold k_Md_read_65
    rw [gf, if_neg (show ¬ nI 2 = 1 by decide), if_pos li2.symm]
    rcases md_ah (ch := c p) (dp := dp) (rw := rw) (by omega) (by omega) with ⟨g1, g2⟩ | ⟨q, dp', g1, g2, g3, g4, g5⟩
    · rw [g2, e_bd1, r_252w (by omega), g1]
      exact ⟨fun s' h => (by cases h), fun _ => ⟨_, rfl⟩⟩
    · rw [g2, e_bd1, r_252g rfl (by omega) (by omega), g1]
      refine ⟨fun s' h => ?_, fun h => (by cases h)⟩
      cases h
      refine ⟨_, _, _, _, _, rfl, rfl, g5, ?_, fun h => absurd h (by simp only; omega), fun h => ⟨rfl, rfl⟩⟩
      rw [if_neg (by omega)]
      exact Int32.add_zero _
  · rw [if_neg (show ¬ nI 3 = 0 by decide), nx3]
    unfold k_Md_read_65
    rw [gf, if_neg (show ¬ nI 3 = 1 by decide), if_neg (show ¬ nI 3 = 2 by decide), if_pos li3.symm]
    obtain ⟨r, g1, g2, g3⟩ := r_beh (text := text) (th := th) (rows := rows) (read := read) (begins := begins) (n := 1998 - p) (p := p) (ch := c p) (dp := dp) (rw := rw) (X1 := nI 3) (X3 := X3) (X4 := X4) (sg := nI a) (tried := tried) (by omega) (by omega) (by omega)
    rw [g1, e_bd1]
    refine ⟨fun s' h => ?_, fun h => ⟨_, g3 h⟩⟩
    obtain ⟨Y1, Y2, Y5, k1, k2⟩ := g2 s' h
    exact ⟨_, _, _, _, _, k1, k2⟩
  · rw [if_neg (show ¬ nI 4 = 0 by decide), nx4]
    obtain ⟨hX3, hX4⟩ := h4 (by omega)
    subst hX3; subst hX4
    unfold k_Md_read_65 k_Md_read_198 k_Md_read_223 k_Md_read_241
    rw [gf, if_neg (show ¬ nI 4 = 1 by decide), if_neg (show ¬ nI 4 = 2 by decide), if_neg (show ¬ nI 4 = 3 by decide)]
    simp only [if_pos (show nI 4 = 4 from rfl)]
    rw [li3, li100, show ((10 : Int32) * nI vl + nI (c p)) - 48 = nI (10 * vl + c p) - nI 48 from by rw [li10, pk_mul, nI_add]; rfl, nI_1]
    simp only [i_le (show 3 < 2 ^ 31 by omega) (show ct < 2 ^ 31 by omega), show (nI ct ≤ 0) = (ct ≤ 0) from i_le (b := 0) (show ct < 2 ^ 31 by omega) (by omega), i_lt (show 100 < 2 ^ 31 by omega) (show vl < 2 ^ 31 by omega)]
    obtain ⟨r, g1, g2, g3⟩ := r_beh (text := text) (th := th) (rows := rows) (read := read) (begins := begins) (n := 1998 - p) (p := p) (ch := c p) (dp := dp) (rw := rw) (X1 := nI 4) (X3 := nI ct) (X4 := nI vl) (sg := nI a) (tried := tried) (by omega) (by omega) (by omega)
    by_cases hd : (48 ≤ c p ∧ c p ≤ 57) ∧ ct < 3
    · simp only [if_pos hd]
      rw [gT hd.1, if_neg (by omega), r_252g rfl (by omega) (by omega)]
      refine ⟨fun s' h => ?_, fun h => (by cases h)⟩
      cases h
      refine ⟨_, _, _, _, _, rfl, rfl, ?_, Int32.add_zero _, fun h => absurd h (by simp only; omega), fun h => ⟨rfl, ?_⟩⟩
      · unfold dl
        rw [if_neg (by omega), if_neg (by omega)]
        exact Int32.add_zero _
      · exact (pk_sub (by omega)).trans (congrArg nI (show 10 * vl + c p - 48 = 10 * vl + (c p - 48) by omega))
    · simp only [if_neg hd]
      rw [ite3 (show ¬ ((48 ≤ c p ∧ c p ≤ 57) ∧ ¬ 3 ≤ ct) by omega), g1, e_bd1]
      by_cases hk : 0 < ct ∧ vl ≤ 100
      · simp only [if_pos hk]
        rw [if_neg (show ¬ ct ≤ 0 by omega), if_neg (show ¬ 100 < vl by omega)]
        refine ⟨fun s' h => ?_, fun h => ⟨_, g3 h⟩⟩
        obtain ⟨Y1, Y2, Y5, k1, k2⟩ := g2 s' h
        exact ⟨_, _, _, _, _, k1, k2⟩
      · simp only [if_neg hk]
        refine ⟨fun s' h => (by cases h), fun _ => ⟨tried, ?_⟩⟩
        by_cases h0 : ct ≤ 0
        · rw [if_pos h0, r_252w (by omega)]
        · rw [if_neg h0, if_pos (by omega), r_252w (by omega)]
  · rw [if_neg (show ¬ nI 5 = 0 by decide), nx5]
    obtain ⟨hX3, hX4⟩ := h4 (by omega)
    subst hX3; subst hX4
    unfold k_Md_read_65 k_Md_read_198 k_Md_read_223 k_Md_read_241
    rw [gf, if_neg (show ¬ nI 5 = 1 by decide), if_neg (show ¬ nI 5 = 2 by decide), if_neg (show ¬ nI 5 = 3 by decide)]
    simp only [if_neg (show ¬ nI 5 = 4 by decide)]
    rw [li2, li15, show ((10 : Int32) * nI vl + nI (c p)) - 48 = nI (10 * vl + c p) - nI 48 from by rw [li10, pk_mul, nI_add]; rfl, nI_1]
    simp only [i_le (show 2 < 2 ^ 31 by omega) (show ct < 2 ^ 31 by omega), show (nI ct ≤ 0) = (ct ≤ 0) from i_le (b := 0) (show ct < 2 ^ 31 by omega) (by omega), i_lt (show 15 < 2 ^ 31 by omega) (show vl < 2 ^ 31 by omega)]
    obtain ⟨r, g1, g2, g3⟩ := r_beh (text := text) (th := th) (rows := rows) (read := read) (begins := begins) (n := 1998 - p) (p := p) (ch := c p) (dp := dp) (rw := rw) (X1 := nI 5) (X3 := nI ct) (X4 := nI vl) (sg := nI a) (tried := tried) (by omega) (by omega) (by omega)
    by_cases hd : (48 ≤ c p ∧ c p ≤ 57) ∧ ct < 2
    · simp only [if_pos hd]
      rw [gT hd.1, if_neg (by omega), r_252g rfl (by omega) (by omega)]
      refine ⟨fun s' h => ?_, fun h => (by cases h)⟩
      cases h
      refine ⟨_, _, _, _, _, rfl, rfl, ?_, Int32.add_zero _, fun h => absurd h (by simp only; omega), fun h => ⟨rfl, ?_⟩⟩
      · unfold dl
        rw [if_neg (by omega), if_neg (by omega)]
        exact Int32.add_zero _
      · exact (pk_sub (by omega)).trans (congrArg nI (show 10 * vl + c p - 48 = 10 * vl + (c p - 48) by omega))
    · simp only [if_neg hd]
      rw [ite3 (show ¬ ((48 ≤ c p ∧ c p ≤ 57) ∧ ¬ 2 ≤ ct) by omega), g1, e_bd1]
      by_cases hk : 0 < ct ∧ vl ≤ 15
      · simp only [if_pos hk]
        rw [if_neg (show ¬ ct ≤ 0 by omega), if_neg (show ¬ 15 < vl by omega)]
        refine ⟨fun s' h => ?_, fun h => ⟨_, g3 h⟩⟩
        obtain ⟨Y1, Y2, Y5, k1, k2⟩ := g2 s' h
        exact ⟨_, _, _, _, _, k1, k2⟩
      · simp only [if_neg hk]
        refine ⟨fun s' h => (by cases h), fun _ => ⟨tried, ?_⟩⟩
        by_cases h0 : ct ≤ 0
        · rw [if_pos h0, r_252w (by omega)]
        · rw [if_neg h0, if_pos (by omega), r_252w (by omega)]
theorem nx_form {s s' : S5} {ch : Nat} (hs : OKS s) (h : nx s ch = some s') : (s' = (0, 0, 0, 0, s.2.2.2.2 + 1) ∧ 3 ≤ s.1 ∧ s.2.1 = 0 ∧ ch = 59) ∨ (s'.1 ≠ 0 ∧ s'.2.2.2.2 = s.2.2.2.2) := by
  obtain ⟨md, dp, ct, vl, rw⟩ := s
  have hs := ok_un hs
  have hmd : md = 0 ∨ md = 1 ∨ md = 2 ∨ md = 3 ∨ md = 4 ∨ md = 5 := by omega
  have hbh : 3 ≤ md → bh ch dp rw = some s' → (s' = (0, 0, 0, 0, rw + 1) ∧ 3 ≤ md ∧ dp = 0 ∧ ch = 59) ∨ (s'.1 ≠ 0 ∧ s'.2.2.2.2 = rw) := by
    intro h3 hb'
    rcases bh_some hb' with ⟨rfl, _⟩ | ⟨rfl, _⟩ | ⟨rfl, h1, h2⟩
    · exact Or.inr ⟨by simp, rfl⟩
    · exact Or.inr ⟨by simp, rfl⟩
    · exact Or.inl ⟨rfl, h3, h2, h1⟩
  rcases hmd with rfl | rfl | rfl | rfl | rfl | rfl
  · rw [nx0] at h
    split at h
    · cases h; exact Or.inr ⟨by simp, rfl⟩
    · cases h
  · rw [nx1] at h
    split at h
    · cases h; exact Or.inr ⟨by simp, rfl⟩
    · split at h
      · cases h; exact Or.inr ⟨by simp, rfl⟩
      · cases h
  · rw [nx2] at h
    rcases ahd_some h with ⟨rfl, _⟩ | ⟨rfl, _⟩ | ⟨rfl, _⟩ | ⟨rfl, _⟩ <;> exact Or.inr ⟨by simp, rfl⟩
  · exact hbh (by omega) h
  · rw [nx4] at h
    split at h
    · cases h; exact Or.inr ⟨by simp, rfl⟩
    · split at h
      · exact hbh (by omega) h
      · cases h
  · rw [nx5] at h
    split at h
    · cases h; exact Or.inr ⟨by simp, rfl⟩
    · split at h
      · exact hbh (by omega) h
      · cases h
theorem at_zero {c : Nat → Nat} {p : Nat} {s : S5} (h : AT c p s) (h0 : s.1 = 0) : s = (0, 0, 0, 0, s.2.2.2.2) := by
  cases p with
  | zero => cases h; rfl
  | succ p =>
    obtain ⟨s0, h1, h2⟩ := at_inv h
    rcases nx_form (ok_at h1) h2 with ⟨rfl, _⟩ | ⟨h3, _⟩
    · rfl
    · exact absurd h0 h3
theorem r_run {c : Nat → Nat} {a : Nat} {text : Nat → Int32} {th : Int32} {rows : Int32} {read : Nat → Int32} {begins : Nat → Int32} (ha : a ≤ 300) (hc : ∀ j, j < a → text j = nI (c j) ∧ c j ≤ 126) (tried0 : Nat → Int32) : ∀ (p : Nat) (s : S5), p ≤ a → AT c p s → ∃ X1 X2 X3 X4 X5 tried, RD text a th rows read begins 0 0 0 0 0 0 tried0 = RD text a th rows read begins p X1 X2 X3 X4 X5 tried ∧ REL s X1 X2 X3 X4 X5 ∧ (∀ k, k < s.2.2.2.2 ∨ (k = s.2.2.2.2 ∧ s.1 ≠ 0) → ∃ q, tried k = nI q ∧ q < p ∧ AT c q (0, 0, 0, 0, k)) := by
  intro p
  induction p with
  | zero =>
    intro s _ h
    cases h
    refine ⟨0, 0, 0, 0, 0, tried0, rfl, ⟨rfl, rfl, rfl, fun h => absurd h (by simp), fun h => absurd h (by simp)⟩, fun k hk => ?_⟩
    simp only at hk
    omega
  | succ p ih =>
    intro s' hp h
    obtain ⟨s, h1, h2⟩ := at_inv h
    obtain ⟨X1, X2, X3, X4, X5, tried, g1, g2, g3⟩ := ih s (by omega) h1
    obtain ⟨Y1, Y2, Y3, Y4, Y5, k1, k2⟩ := (r_step (th := th) (rows := rows) (read := read) (begins := begins) (tried := tried) ha hc (show p < a by omega) (ok_at h1) g2).1 s' h2
    refine ⟨Y1, Y2, Y3, Y4, Y5, _, g1.trans k1, k2, fun k hk => ?_⟩
    rcases nx_form (ok_at h1) h2 with ⟨e, h3, _⟩ | ⟨h3, h4⟩
    · rw [e] at hk
      simp only at hk
      rw [if_neg (by omega)]
      obtain ⟨q, m1, m2, m3⟩ := g3 k (by omega)
      exact ⟨q, m1, by omega, m3⟩
    · rw [h4] at hk
      by_cases h5 : s.1 = 0
      · rw [if_pos h5]
        by_cases hk2 : k = s.2.2.2.2
        · refine ⟨p, by rw [hk2, pk_us], by omega, ?_⟩
          rw [hk2, ← at_zero h1 h5]
          exact h1
        · obtain ⟨q, m1, m2, m3⟩ := g3 k (by omega)
          exact ⟨q, by rw [pk_un hk2]; exact m1, by omega, m3⟩
      · rw [if_neg h5]
        obtain ⟨q, m1, m2, m3⟩ := g3 k (by omega)
        exact ⟨q, m1, by omega, m3⟩
theorem r_407 {a : Nat} {text : Nat → Int32} {th : Int32} {read : Nat → Int32} (ha : a ≤ 300) {k : Nat} {tried : Nat → Int32} (hk : k ≤ 20) : ∀ (d n i : Nat) (begins : Nat → Int32), i + d = k + 1 → d < n → (∀ j, j < i → begins j = tried j) → ∃ begins', k_Md_read_407 text n (nI k) (-1) (nI i) th (nI a) (nI k) read begins tried = some (nI k, th, 0, nI k, read, begins', tried) ∧ ∀ j, j ≤ k → begins' j = tried j := by
  intro d
  induction d with
  | zero =>
    intro n i begins hi hn hb'
    obtain ⟨n, rfl⟩ : ∃ k, n = k + 1 := ⟨n - 1, by omega⟩
    rw [k_Md_read_407_s, if_pos (by rw [i_lt (by omega) (by omega)]; omega)]
    unfold k_Md_read_434
    rw [if_neg m1neg]
    exact ⟨begins, rfl, fun j hj => hb' j (by omega)⟩
  | succ d ih =>
    intro n i begins hi hn hb'
    obtain ⟨n, rfl⟩ : ∃ k, n = k + 1 := ⟨n - 1, by omega⟩
    rw [k_Md_read_407_s, if_neg (by rw [i_lt (by omega) (by omega)]; omega), ix_ok (by omega) (by omega), ix_ok (by omega) (by omega), clI (by omega), nI_1]
    refine ih n (i + 1) _ (by omega) (by omega) (fun j hj => ?_)
    by_cases hji : j = i
    · rw [hji, pk_us]
    · rw [pk_un hji]; exact hb' j (by omega)
theorem r_364 {a : Nat} {text : Nat → Int32} {th : Int32} {begins : Nat → Int32} (ha : a ≤ 300) {k : Nat} {tried : Nat → Int32} (hk : k ≤ 20) : ∀ (d n i : Nat) (read : Nat → Int32), i + d = a → d < n → (∀ j, j < i → read j = text j) → ∃ read' begins' tried', k_Md_read_364 text n (nI k) (-1) (nI i) th (nI a) (nI k) read begins tried = some (nI k, th, 0, nI k, read', begins', tried') ∧ (∀ j, j < a → read' j = text j) ∧ ∀ j, j < k → begins' j = tried j := by
  intro d
  induction d with
  | zero =>
    intro n i read hi hn hb'
    obtain ⟨n, rfl⟩ : ∃ k, n = k + 1 := ⟨n - 1, by omega⟩
    rw [k_Md_read_364_s, if_pos (by rw [i_le (by omega) (by omega)]; omega), ix_ok (by omega) (by omega), clI (by omega), li0]
    obtain ⟨b', h1, h2⟩ := r_407 (text := text) (th := th) (read := read) ha (tried := upd tried k (nI a)) hk (k + 1) 2000 0 begins (by omega) (by omega) (fun j hj => absurd hj (by omega))
    exact ⟨read, b', _, h1, fun j hj => hb' j (by omega), fun j hj => by rw [h2 j (by omega), pk_un (by omega)]⟩
  | succ d ih =>
    intro n i read hi hn hb'
    obtain ⟨n, rfl⟩ : ∃ k, n = k + 1 := ⟨n - 1, by omega⟩
    rw [k_Md_read_364_s, if_neg (by rw [i_le (by omega) (by omega)]; omega), ix_ok (by omega) (by omega), ix_ok (by omega) (by omega), clI (by omega), nI_1]
    refine ih n (i + 1) _ (by omega) (by omega) (fun j hj => ?_)
    by_cases hji : j = i
    · rw [hji, pk_us]
    · rw [pk_un hji]; exact hb' j (by omega)
theorem r_ok {c : Nat → Nat} {a : Nat} {text : Nat → Int32} {th : Int32} {rows : Int32} {read : Nat → Int32} {begins : Nat → Int32} (ha : a ≤ 300) (hc : ∀ j, j < a → text j = nI (c j) ∧ c j ≤ 126) (tried0 : Nat → Int32) {k : Nat} (h1 : 1 ≤ k) (h2 : k ≤ 20) (hA : AT c a (0, 0, 0, 0, k)) : ∃ read' begins' tried', RD text a th rows read begins 0 0 0 0 0 0 tried0 = some (nI k, th, 0, nI k, read', begins', tried') ∧ (∀ j, j < a → read' j = text j) ∧ ∀ j, j < k → ∃ q, begins' j = nI q ∧ q < a ∧ AT c q (0, 0, 0, 0, j) := by
  obtain ⟨X1, X2, X3, X4, X5, tried, g1, ⟨g2, _, g4, _⟩, g3⟩ := r_run (th := th) (rows := rows) (read := read) (begins := begins) ha hc tried0 a _ (Nat.le_refl a) hA
  simp only at g2 g4 g3
  subst g2; subst g4
  rw [g1]
  unfold RD
  rw [show 2000 - a = 1999 - a + 1 by omega, k_Md_read_23_s, if_pos (by rw [i_le (by omega) (by omega)]; omega)]
  unfold k_Md_read_325 k_Md_read_346 k_Md_read_348
  rw [if_neg m1neg, if_pos li0.symm, if_neg (nI_ne0 (by omega) (by omega)), if_neg m1neg, li0]
  obtain ⟨r', b', t', k1, k2, k3⟩ := r_364 (text := text) (th := th) (begins := begins) ha (tried := tried) h2 a 2000 0 read (by omega) (by omega) (fun j hj => absurd hj (by omega))
  refine ⟨r', b', t', k1, k2, fun j hj => ?_⟩
  rw [k3 j hj]
  exact g3 j (Or.inl hj)
theorem r_no {c : Nat → Nat} {a : Nat} {text : Nat → Int32} {th : Int32} {rows : Int32} {read : Nat → Int32} {begins : Nat → Int32} (ha : a ≤ 300) (hc : ∀ j, j < a → text j = nI (c j) ∧ c j ≤ 126) (tried0 : Nat → Int32) {p : Nat} (hS : stuck c a p) : ∃ tried', RD text a th rows read begins 0 0 0 0 0 0 tried0 = some ((-1) - nI p, th, 0, rows, read, begins, tried') := by
  obtain ⟨s, hA, hp, h1, h2⟩ := hS
  obtain ⟨X1, X2, X3, X4, X5, tried, g1, g2, g3⟩ := r_run (th := th) (rows := rows) (read := read) (begins := begins) ha hc tried0 p s hp hA
  rw [g1]
  by_cases h3 : p < a
  · exact (r_step (th := th) (rows := rows) (read := read) (begins := begins) (tried := tried) ha hc h3 (ok_at hA) g2).2 (h2 h3)
  · have hpa : p = a := by omega
    have h4 := h1 hpa
    rw [hpa]
    obtain ⟨md, dp, ct, vl, rw⟩ := s
    have hs := ok_un (ok_at hA)
    obtain ⟨g4, _, g5, _⟩ := g2
    simp only at g4 g5 h4
    subst g4; subst g5
    unfold RD
    rw [show 2000 - a = 1999 - a + 1 by omega, k_Md_read_23_s, if_pos (by rw [i_le (by omega) (by omega)]; omega)]
    unfold k_Md_read_325 k_Md_read_339 k_Md_read_346 k_Md_read_348 k_Md_read_434
    simp only [show (nI md = 0) = (md = 0) from i_eq (b := 0) (by omega) (by omega), show (nI rw = 0) = (rw = 0) from i_eq (b := 0) (by omega) (by omega), if_neg m1neg, if_pos (nI_pos' (show a < 2 ^ 31 by omega))]
    rcases h4 with h4 | h4
    · rw [if_neg h4]; exact ⟨_, rfl⟩
    · subst h4
      simp only [if_true, ite_self]
      exact ⟨_, rfl⟩
def JR (rlen rsz : Int32) (rsg : Nat → Int32) (rows : Int32) (read begins : Nat → Int32) : Prop := rsz = rows ∧ ∃ (r k : Nat) (c : Nat → Nat), r ≤ 300 ∧ k ≤ 20 ∧ rlen = nI r ∧ rows = nI k ∧ (∀ j, j < r → rsg j = nI (c j) ∧ read j = nI (c j) ∧ c j ≤ 126) ∧ AT c r (0, 0, 0, 0, k) ∧ ∀ j, j < k → ∃ q, begins j = nI q ∧ q < r ∧ AT c q (0, 0, 0, 0, j)
theorem m1le : ∀ p, p < 301 → ((-1 : Int32) - nI p) ≤ 0 := by decide +kernel
theorem s_read {tlen tpl rlen rsz signs rows th : Int32} {tsg text rsg read begins tried : Nat → Int32} (hT : JT tlen tsg signs text) (hR : JR rlen rsz rsg rows read begins) :
    ∃ r tlen' tpl' rlen' rsz' rsg' th' signs' rows' read' begins' tried', m_Or_read tsg tlen tpl rlen rsz rsg = some (r, tlen', tpl', rlen', rsz', rsg') ∧ m_Md_read text th signs rows read begins tried = some (r, th', signs', rows', read', begins', tried') ∧ JT tlen' tsg signs' text ∧ JR rlen' rsz' rsg' rows' read' begins' := by
  obtain ⟨a, c, ha, rfl, rfl, hc⟩ := hT
  have hc1 : ∀ j, j < a → tsg j = nI (c j) ∧ c j ≤ 126 := fun j hj => ⟨(hc j hj).1, (hc j hj).2.2.2⟩
  have hc2 : ∀ j, j < a → text j = nI (c j) ∧ c j ≤ 126 := fun j hj => ⟨(hc j hj).2.1, (hc j hj).2.2.2⟩
  have hT0 : JT 0 tsg 0 text := ⟨0, c, by omega, rfl, rfl, fun j hj => absurd hj (by omega)⟩
  have hmd : m_Md_read text th (nI a) rows read begins tried = RD text a 0 rows read begins 0 0 0 0 0 0 tried := rfl
  unfold m_Or_read
  rw [hmd]
  rcases p_all ha hc1 tpl with ⟨k, h1, h2, h3, h4⟩ | ⟨p, h3, h4⟩
  · obtain ⟨read', begins', tried', g1, g2, g3⟩ := r_ok (th := 0) (rows := rows) (read := read) (begins := begins) ha hc2 tried h1 h2 h4
    rw [h3, e_bd2, if_neg (nI_nle (by omega) (by omega)), g1]
    unfold m_Rows_replace acg
    rw [if_pos ⟨by decide, by decide, nI_pos (by omega), by rw [clI (by omega), show (0 : Int32).toNatClampNeg = 0 by decide]; omega, by rw [clI (by omega), show (0 : Int32).toNatClampNeg = 0 by decide]; omega, fun i hi => by
      rw [clI (by omega)] at hi
      rw [show (0 : Int32).toNatClampNeg = 0 by decide, Nat.zero_add, (hc1 i hi).1]
      have := (hc1 i hi).2
      exact (pk_charN (by omega)).2⟩, e_bd3]
    refine ⟨_, _, _, _, _, _, _, _, _, _, _, _, rfl, rfl, hT0, rfl, a, k, c, ha, h2, rfl, rfl, fun j hj => ⟨?_, ?_, (hc1 j hj).2⟩, h4, g3⟩
    · rw [clI (by omega), show (0 : Int32).toNatClampNeg = 0 by decide, pk_cpy_in (by omega) (by omega), Nat.zero_add, Nat.sub_zero, (hc1 j hj).1]
    · rw [g2 j hj, (hc2 j hj).1]
  · obtain ⟨tried', g1⟩ := r_no (th := 0) (rows := rows) (read := read) (begins := begins) ha hc2 tried h4
    obtain ⟨s, _, hp, _⟩ := h4
    rw [h3, e_bd2, if_pos (m1le p (by omega)), g1]
    exact ⟨_, _, _, _, _, _, _, _, _, _, _, _, rfl, rfl, hT0, hR⟩
