def clo (J : Nat → Nat → Bool) (C : Nat → Bool) : Prop := ∀ a b, a < 10 → b < 10 → C a = true → J a b = true → C b = true
def sub10 (S C : Nat → Bool) : Prop := ∀ b, b < 10 → S b = true → C b = true
def rnd (J : Nat → Nat → Bool) (S S' : Nat → Bool) : Prop := sub10 S S' ∧ (∀ a b, a < 10 → b < 10 → S a = true → J a b = true → S' b = true) ∧ (∀ C, clo J C → sub10 S C → sub10 S' C)
def its (J : Nat → Nat → Bool) : Nat → (Nat → Bool) → (Nat → Bool) → Prop
  | 0, S, S' => S = S'
  | k + 1, S, S' => ∃ M, rnd J S M ∧ its J k M S'
def cnt (S : Nat → Bool) : Nat → Nat
  | 0 => 0
  | n + 1 => cnt S n + (if S n = true then 1 else 0)
theorem cnt_le {S S' : Nat → Bool} : ∀ n, (∀ b, b < n → S b = true → S' b = true) → cnt S n ≤ cnt S' n ∧ (cnt S n = cnt S' n → ∀ b, b < n → S' b = true → S b = true)
  | 0, _ => ⟨Nat.le_refl _, fun _ b hb => absurd hb (by omega)⟩
  | n + 1, h => by
    obtain ⟨h1, h2⟩ := cnt_le n (fun b hb => h b (by omega))
    have h3 := h n (by omega)
    unfold cnt
    cases hs : S n with
    | true =>
      rw [hs] at h3
      rw [h3 rfl]
      simp only [if_true]
      refine ⟨by omega, fun he b hb hsb => ?_⟩
      by_cases hbn : b = n
      · subst hbn; exact hs
      · exact h2 (by omega) b (by omega) hsb
    | false =>
      cases hs' : S' n with
      | true =>
        simp only [if_true, Bool.false_eq_true, if_false]
        exact ⟨by omega, fun he => absurd he (by omega)⟩
      | false =>
        simp only [Bool.false_eq_true, if_false]
        refine ⟨by omega, fun he b hb hsb => ?_⟩
        by_cases hbn : b = n
        · subst hbn; rw [hs'] at hsb; cases hsb
        · exact h2 (by omega) b (by omega) hsb
theorem cnt_top (S : Nat → Bool) : ∀ n, cnt S n ≤ n
  | 0 => Nat.le_refl _
  | n + 1 => by
    have := cnt_top S n
    unfold cnt
    split <;> omega
theorem cnt_pos {S : Nat → Bool} (h : S 0 = true) : ∀ n, 0 < n → 0 < cnt S n
  | 0, h0 => absurd h0 (by omega)
  | 1, _ => by unfold cnt; rw [if_pos h]; omega
  | n + 2, _ => by
    have := cnt_pos h (n + 1) (by omega)
    rw [cnt]
    omega
theorem its_mono {J : Nat → Nat → Bool} : ∀ k S S', its J k S S' → sub10 S S' ∧ (∀ C, clo J C → sub10 S C → sub10 S' C)
  | 0, S, S', h => by cases h; exact ⟨fun b _ h => h, fun C _ h => h⟩
  | k + 1, S, S', ⟨M, hr, hi⟩ => by
    obtain ⟨h1, h2⟩ := its_mono k M S' hi
    exact ⟨fun b hb hs => h1 b hb (hr.1 b hb hs), fun C hC hS => h2 C hC (hr.2.2 C hC hS)⟩
theorem its_clo {J : Nat → Nat → Bool} : ∀ k S S', its J k S S' → clo J S' ∨ cnt S 10 + k ≤ cnt S' 10
  | 0, S, S', h => by cases h; exact Or.inr (Nat.le_refl _)
  | k + 1, S, S', ⟨M, hr, hi⟩ => by
    rcases its_clo k M S' hi with h | h
    · exact Or.inl h
    · obtain ⟨h1, h2⟩ := cnt_le 10 hr.1
      by_cases he : cnt S 10 = cnt M 10
      · have hMS := h2 he
        have hcS : clo J S := fun a b ha hb hs hj => hMS b hb (hr.2.1 a b ha hb hs hj)
        have hm := its_mono (k + 1) S S' ⟨M, hr, hi⟩
        left
        intro a b ha hb hs hj
        exact hm.1 b hb (hcS a b ha hb (hm.2 S hcS (fun b _ h => h) a ha hs) hj)
      · right; omega
theorem its_fin {J : Nat → Nat → Bool} {S S' : Nat → Bool} (h : its J 10 S S') (h0 : S 0 = true) : clo J S' := by
  rcases its_clo 10 S S' h with h1 | h1
  · exact h1
  · have h2 := cnt_top S' 10
    have h3 := cnt_pos h0 10 (by omega)
    omega
theorem own26 {lful : Bool} {ljn : Nat → Int32} {Ko : Int32 → Int32 → Option Int32} : ∀ (d n i : Nat) (x1 x2 : Int32), i + d = 10 → d < n → ∃ x', k_Lands_ownLands_26 lful ljn Ko n x1 x2 (nI i) = Ko x' (x2 + 1) ∧ sub10 (bt x1) (bt x') ∧ (∀ a b, i ≤ a → a < 10 → b < 10 → bt x1 a = true → bt (ljn a) b = true → bt x' b = true) ∧ (∀ C, clo (fun a b => bt (ljn a) b) C → sub10 (bt x1) C → sub10 (bt x') C) := by
  intro d
  induction d with
  | zero =>
    intro n i x1 x2 hi hn
    obtain ⟨n, rfl⟩ : ∃ k, n = k + 1 := ⟨n - 1, by omega⟩
    rw [k_Lands_ownLands_26_s, li10, if_pos (by rw [i_le (by omega) (by omega)]; omega)]
    exact ⟨x1, rfl, fun b _ h => h, fun a b h1 h2 => absurd h1 (by omega), fun C _ h => h⟩
  | succ d ih =>
    intro n i x1 x2 hi hn
    obtain ⟨n, rfl⟩ : ∃ k, n = k + 1 := ⟨n - 1, by omega⟩
    rw [k_Lands_ownLands_26_s, li10, if_neg (by rw [i_le (by omega) (by omega)]; omega), hb (by omega), e_bd1, nI_1]
    cases hx : bt x1 i with
    | false =>
      rw [gf]
      obtain ⟨x', h1, h2, h3, h4⟩ := ih n (i + 1) x1 x2 (by omega) (by omega)
      refine ⟨x', h1, h2, fun a b ha ha2 hb' hs hj => ?_, h4⟩
      by_cases hai : a = i
      · subst hai; rw [hx] at hs; cases hs
      · exact h3 a b (by omega) ha2 hb' hs hj
    | true =>
      rw [gt, ix_ok (by omega) (by omega), clI (by omega)]
      obtain ⟨x', h1, h2, h3, h4⟩ := ih n (i + 1) (x1 ||| ljn i) x2 (by omega) (by omega)
      have hsub : sub10 (bt x1) (bt (x1 ||| ljn i)) := fun b hb' hs => by rw [b_or, hs]; rfl
      refine ⟨x', h1, fun b hb' hs => h2 b hb' (hsub b hb' hs), fun a b ha ha2 hb' hs hj => ?_, fun C hC hS => h4 C hC (fun b hb' hs => ?_)⟩
      · by_cases hai : a = i
        · subst hai
          exact h2 b hb' (by rw [b_or, hj, Bool.or_true])
        · exact h3 a b (by omega) ha2 hb' (hsub a ha2 hs) hj
      · rw [b_or] at hs
        rcases Bool.or_eq_true_iff.mp hs with hs | hs
        · exact hS b hb' hs
        · exact hC i b (by omega) hb' (hS i (by omega) hx) hs
theorem own11 {ljn : Nat → Int32} : ∀ (k n t : Nat) (x1 : Int32), t + k = 10 → k < n → ∃ x', k_Lands_ownLands_11 true ljn n x1 (nI t) = some x' ∧ its (fun a b => bt (ljn a) b) k (bt x1) (bt x') := by
  intro k
  induction k with
  | zero =>
    intro n t x1 ht hn
    obtain ⟨n, rfl⟩ : ∃ k, n = k + 1 := ⟨n - 1, by omega⟩
    rw [k_Lands_ownLands_11_s, gt, li10, if_pos (by rw [i_le (by omega) (by omega)]; omega)]
    exact ⟨x1, rfl, rfl⟩
  | succ k ih =>
    intro n t x1 ht hn
    obtain ⟨n, rfl⟩ : ∃ k, n = k + 1 := ⟨n - 1, by omega⟩
    rw [k_Lands_ownLands_11_s, gt, li10, if_neg (by rw [i_le (by omega) (by omega)]; omega)]
    obtain ⟨y, h1, h2, h3, h4⟩ := own26 (lful := true) (ljn := ljn) (Ko := k_Lands_ownLands_11 true ljn n) 10 2000 0 x1 (nI t) (by omega) (by omega)
    rw [← li0] at h1
    rw [h1, nI_1]
    obtain ⟨x', h5, h6⟩ := ih n (t + 1) y (by omega) (by omega)
    exact ⟨x', h5, bt y, ⟨h2, fun a b ha hb' => h3 a b (by omega) ha hb', h4⟩, h6⟩
theorem own27 {full : Bool} {joined : Nat → Int32} {p : Int32} {Ko : Int32 → Int32 → Option Bool} : ∀ (d n i : Nat) (x2 x3 x4 : Int32), i + d = 100 → d < n → ∃ x', k_Md_isOwn_27 full joined p Ko n x2 x3 x4 (nI i) = Ko x' (x3 + 1) ∧ ∀ b, b < 10 → (bt x' b = true ↔ bt x2 b = true ∨ ∃ q, i ≤ q ∧ q < 100 ∧ q % 10 = b ∧ ¬ joined q = 0 ∧ bt x4 (q / 10) = true) := by
  intro d
  induction d with
  | zero =>
    intro n i x2 x3 x4 hi hn
    obtain ⟨n, rfl⟩ : ∃ k, n = k + 1 := ⟨n - 1, by omega⟩
    rw [k_Md_isOwn_27_s, li100, if_pos (by rw [i_le (by omega) (by omega)]; omega)]
    exact ⟨x2, rfl, fun b hb' => ⟨Or.inl, fun h => h.elim id (fun ⟨q, h1, h2, _⟩ => absurd h1 (by omega))⟩⟩
  | succ d ih =>
    intro n i x2 x3 x4 hi hn
    obtain ⟨n, rfl⟩ : ∃ k, n = k + 1 := ⟨n - 1, by omega⟩
    rw [k_Md_isOwn_27_s, li100, if_neg (by rw [i_le (by omega) (by omega)]; omega), ix_ok (by omega) (by omega), clI (by omega), nI_1, li10, pk_rem (a := i) (d := 10) (by omega) (by omega) (by omega), pk_div (a := i) (d := 10) (by omega) (by omega) (by omega)]
    by_cases hj : joined i = 0
    · rw [if_pos hj]
      obtain ⟨x', h1, h2⟩ := ih n (i + 1) (x2 ||| 0) x3 x4 (by omega) (by omega)
      refine ⟨x', h1, fun b hb' => (h2 b hb').trans ?_⟩
      rw [b_or, b_0, Bool.or_false]
      constructor
      · rintro (h | ⟨q, h3, h4⟩)
        · exact Or.inl h
        · exact Or.inr ⟨q, by omega, h4⟩
      · rintro (h | ⟨q, h3, h4, h5, h6, h7⟩)
        · exact Or.inl h
        · refine Or.inr ⟨q, ?_, h4, h5, h6, h7⟩
          rcases Nat.eq_or_lt_of_le h3 with h | h
          · subst h; exact absurd hj h6
          · exact h
    · rw [if_neg hj]
      by_cases hx : ((x4 >>> (nI (i / 10) &&& 31)) &&& 1) = 1
      · rw [if_pos hx]
        have hx' := (hb_iff (show i / 10 < 32 by omega) x4).mp hx
        obtain ⟨x', h1, h2⟩ := ih n (i + 1) (x2 ||| (1 <<< (nI (i % 10) &&& 31))) x3 x4 (by omega) (by omega)
        refine ⟨x', h1, fun b hb' => (h2 b hb').trans ?_⟩
        rw [b_or, b_one (by omega) (by omega), Bool.or_eq_true_iff, decide_eq_true_iff]
        constructor
        · rintro ((h | h) | ⟨q, h3, h4⟩)
          · exact Or.inl h
          · exact Or.inr ⟨i, Nat.le_refl _, by omega, h.symm, hj, hx'⟩
          · exact Or.inr ⟨q, by omega, h4⟩
        · rintro (h | ⟨q, h3, h4, h5, h6, h7⟩)
          · exact Or.inl (Or.inl h)
          · rcases Nat.eq_or_lt_of_le h3 with h | h
            · subst h; exact Or.inl (Or.inr h5.symm)
            · exact Or.inr ⟨q, h, h4, h5, h6, h7⟩
      · rw [if_neg hx]
        have hx' : ¬ bt x4 (i / 10) = true := fun h => hx ((hb_iff (show i / 10 < 32 by omega) x4).mpr h)
        obtain ⟨x', h1, h2⟩ := ih n (i + 1) (x2 ||| 0) x3 x4 (by omega) (by omega)
        refine ⟨x', h1, fun b hb' => (h2 b hb').trans ?_⟩
        rw [b_or, b_0, Bool.or_false]
        constructor
        · rintro (h | ⟨q, h3, h4⟩)
          · exact Or.inl h
          · exact Or.inr ⟨q, by omega, h4⟩
        · rintro (h | ⟨q, h3, h4, h5, h6, h7⟩)
          · exact Or.inl h
          · refine Or.inr ⟨q, ?_, h4, h5, h6, h7⟩
            rcases Nat.eq_or_lt_of_le h3 with h | h
            · subst h; exact absurd h7 hx'
            · exact h
theorem own27' {full : Bool} {joined ljn : Nat → Int32} {p : Int32} {Ko : Int32 → Int32 → Option Bool} (hc : ∀ a b, a < 10 → b < 10 → joined (10 * a + b) = bI (bt (ljn a) b)) (x2 x3 : Int32) : ∃ x', k_Md_isOwn_27 full joined p Ko 2000 x2 x3 x2 0 = Ko x' (x3 + 1) ∧ ∀ b, b < 10 → (bt x' b = true ↔ bt x2 b = true ∨ ∃ a, a < 10 ∧ bt x2 a = true ∧ bt (ljn a) b = true) := by
  obtain ⟨x', h1, h2⟩ := own27 (full := full) (joined := joined) (p := p) (Ko := Ko) 100 2000 0 x2 x3 x2 (by omega) (by omega)
  refine ⟨x', h1, fun b hb' => (h2 b hb').trans ?_⟩
  constructor
  · rintro (h | ⟨q, h3, h4, h5, h6, h7⟩)
    · exact Or.inl h
    · refine Or.inr ⟨q / 10, by omega, h7, ?_⟩
      have h8 := hc (q / 10) b (by omega) hb'
      rw [show 10 * (q / 10) + b = q by omega] at h8
      cases hbt : bt (ljn (q / 10)) b with
      | true => rfl
      | false => rw [hbt] at h8; exact absurd h8 h6
  · rintro (h | ⟨a, h3, h4, h5⟩)
    · exact Or.inl h
    · refine Or.inr ⟨10 * a + b, by omega, by omega, by omega, ?_, ?_⟩
      · rw [hc a b h3 hb', h5]; decide
      · rw [show (10 * a + b) / 10 = a by omega]; exact h4
theorem own4 {joined ljn : Nat → Int32} {p : Int32} (hc : ∀ a b, a < 10 → b < 10 → joined (10 * a + b) = bI (bt (ljn a) b)) : ∀ (k n t : Nat) (x2 : Int32), t + k = 10 → k < n → ∃ y, k_Md_isOwn_4 true joined p n x2 (nI t) = (if ((y >>> (p &&& 31)) &&& 1) = 1 then some true else some false) ∧ its (fun a b => bt (ljn a) b) k (bt x2) (bt y) := by
  intro k
  induction k with
  | zero =>
    intro n t x1 ht hn
    obtain ⟨n, rfl⟩ : ∃ k, n = k + 1 := ⟨n - 1, by omega⟩
    rw [k_Md_isOwn_4_s, gt]
    unfold k_Md_isOwn_18
    rw [li10, if_pos (by rw [i_le (by omega) (by omega)]; omega)]
    exact ⟨x1, rfl, rfl⟩
  | succ k ih =>
    intro n t x1 ht hn
    obtain ⟨n, rfl⟩ : ∃ k, n = k + 1 := ⟨n - 1, by omega⟩
    rw [k_Md_isOwn_4_s, gt]
    unfold k_Md_isOwn_18
    rw [li10, if_neg (by rw [i_le (by omega) (by omega)]; omega)]
    obtain ⟨y, h1, h2⟩ := own27' (full := true) (joined := joined) (ljn := ljn) (p := p) (Ko := k_Md_isOwn_4 true joined p n) hc x1 (nI t)
    rw [h1, nI_1]
    obtain ⟨x', h5, h6⟩ := ih n (t + 1) y (by omega) (by omega)
    refine ⟨x', h5, bt y, ⟨fun b hb' hs => (h2 b hb').mpr (Or.inl hs), fun a b ha hb' hs hj => (h2 b hb').mpr (Or.inr ⟨a, ha, hs, hj⟩), fun C hC hS b hb' hs => ?_⟩, h6⟩
    rcases (h2 b hb').mp hs with h | ⟨a, h3, h4, h5⟩
    · exact hS b hb' h
    · exact hC a b h3 hb' (hS a h3 h4) h5
theorem own_eq {lpr pairs : Int32} {lful full : Bool} {ljn joined : Nat → Int32} (h : JL lpr lful ljn pairs full joined) : ∃ O, m_Lands_ownLands lful ljn = some O ∧ ∀ l, l < 10 → m_Md_isOwn (nI l) full joined = some (bt O l) := by
  obtain ⟨rfl, rfl, hc⟩ := h
  have fin : ∀ (y : Int32) (l : Nat), l < 10 → (if ((y >>> (nI l &&& 31)) &&& 1) = 1 then some true else some false) = some (bt y l) := by
    intro y l hl
    have := hb (show l < 32 by omega) y
    unfold m_Or_hasBit at this
    exact this
  have h00 : (0 : Int32).toNatClampNeg = 0 := by decide
  have b1 : ∀ b, b < 10 → (bt (1 ||| ljn 0) b = true ↔ b = 0 ∨ bt (ljn 0) b = true) := by
    intro b hb'
    rw [b_or, b_1 b (by omega), Bool.or_eq_true_iff, decide_eq_true_iff]
  have b11 : ∀ b, b < 10 → (bt 1 b = true ↔ b = 0) := by
    intro b hb'
    rw [b_1 b (by omega), decide_eq_true_iff]
  unfold m_Lands_ownLands m_Md_isOwn
  rw [show ixg (0 : Int32) 10 = ixg (nI 0) 10 from rfl, ix_ok (by omega) (by omega), h00]
  cases lful with
  | false =>
    refine ⟨1 ||| ljn 0, rfl, fun l hl => ?_⟩
    rw [show (2000 : Nat) = 1998 + 1 + 1 from rfl, k_Md_isOwn_4_s, gf]
    unfold k_Md_isOwn_18
    rw [if_neg (by decide)]
    obtain ⟨y, h1, h2⟩ := own27' (full := false) (joined := joined) (ljn := ljn) (p := nI l) (Ko := k_Md_isOwn_4 false joined (nI l) (1998 + 1)) hc 1 0
    rw [h1, k_Md_isOwn_4_s, gf]
    unfold k_Md_isOwn_18
    rw [if_pos (by decide), fin y l hl]
    congr 1
    apply Bool.eq_iff_iff.mpr
    rw [h2 l hl, b1 l hl, b11 l hl]
    constructor
    · rintro (h | ⟨a, h3, h4, h5⟩)
      · exact Or.inl h
      · rw [(b11 a h3).mp h4] at h5; exact Or.inr h5
    · rintro (h | h)
      · exact Or.inl h
      · exact Or.inr ⟨0, by omega, (b11 0 (by omega)).mpr rfl, h⟩
  | true =>
    obtain ⟨O, h1, h2⟩ := own11 (ljn := ljn) 10 2000 0 (1 ||| ljn 0) (by omega) (by omega)
    refine ⟨O, h1, fun l hl => ?_⟩
    obtain ⟨y, h3, h4⟩ := own4 (joined := joined) (ljn := ljn) (p := nI l) hc 10 2000 0 1 (by omega) (by omega)
    rw [li0, h3, fin y l hl]
    congr 1
    have cO := its_fin h2 ((b1 0 (by omega)).mpr (Or.inl rfl))
    have cy := its_fin h4 ((b11 0 (by omega)).mpr rfl)
    have mO := its_mono _ _ _ h2
    have my := its_mono _ _ _ h4
    have hO0 : bt O 0 = true := mO.1 0 (by omega) ((b1 0 (by omega)).mpr (Or.inl rfl))
    have hy0 : bt y 0 = true := my.1 0 (by omega) ((b11 0 (by omega)).mpr rfl)
    apply Bool.eq_iff_iff.mpr
    constructor
    · exact my.2 (bt O) cO (fun b hb' hs => by rw [(b11 b hb').mp hs]; exact hO0) l hl
    · refine mO.2 (bt y) cy (fun b hb' hs => ?_) l hl
      rcases (b1 b hb').mp hs with h | h
      · rw [h]; exact hy0
      · exact cy 0 b (by omega) hb' hy0 h
