def bt (x : Int32) (i : Nat) : Bool := x.toBitVec.getLsbD i
theorem b_ext {x y : Int32} (h : ∀ i, i < 32 → bt x i = bt y i) : x = y := Int32.toBitVec_inj.mp (BitVec.eq_of_getLsbD_eq (fun i hi => h i hi))
theorem b_or (x y : Int32) (i : Nat) : bt (x ||| y) i = (bt x i || bt y i) := by unfold bt; rw [Int32.toBitVec_or, BitVec.getLsbD_or]
theorem b_and (x y : Int32) (i : Nat) : bt (x &&& y) i = (bt x i && bt y i) := by unfold bt; rw [Int32.toBitVec_and, BitVec.getLsbD_and]
theorem b_0 (i : Nat) : bt 0 i = false := BitVec.getLsbD_zero
theorem s_l : ∀ n, n < 32 → ((nI n &&& 31).toBitVec.smod 32).toNat = n := by decide +kernel
theorem b_shl (n : Nat) (hn : n < 32) (x : Int32) {i : Nat} (hi : i < 32) : bt (x <<< (nI n &&& 31)) i = (decide (n ≤ i) && bt x (i - n)) := by
  unfold bt
  rw [Int32.toBitVec_shiftLeft]
  show (x.toBitVec <<< ((nI n &&& 31).toBitVec.smod 32).toNat).getLsbD i = _
  rw [s_l n hn, BitVec.getLsbD_shiftLeft]
  rcases Nat.lt_or_ge i n with h | h
  · simp [h, Nat.not_le.mpr h]
  · simp [hi, h, Nat.not_lt.mpr h]
theorem b_sshr (n : Nat) (hn : n < 32) (x : Int32) {i : Nat} (hi : i < 32) : bt (x >>> (nI n &&& 31)) i = if n + i < 32 then bt x (n + i) else bt x 31 := by
  unfold bt
  rw [Int32.toBitVec_shiftRight]
  show (x.toBitVec.sshiftRight ((nI n &&& 31).toBitVec.smod 32).toNat).getLsbD i = _
  rw [s_l n hn, BitVec.getLsbD_sshiftRight, BitVec.msb_eq_getLsbD_last]
  simp [hi]
theorem b_1 : ∀ i, i < 32 → bt 1 i = decide (i = 0) := by decide +kernel
theorem hb_iff {n : Nat} (hn : n < 32) (x : Int32) : ((x >>> (nI n &&& 31)) &&& 1) = 1 ↔ bt x n = true := by
  constructor
  · intro h
    have h2 : bt ((x >>> (nI n &&& 31)) &&& 1) 0 = bt 1 0 := by rw [h]
    rw [b_and, b_1 0 (by omega), b_sshr n hn x (by omega)] at h2
    rw [if_pos (by omega)] at h2
    simpa using h2
  · intro h
    apply b_ext
    intro i hi
    rw [b_and, b_1 i hi, b_sshr n hn x hi]
    by_cases h0 : i = 0
    · subst h0; rw [if_pos (by omega)]; simpa using h
    · simp [h0]
theorem hb {n : Nat} (hn : n < 32) (x : Int32) : m_Or_hasBit x (nI n) = some (bt x n) := by
  unfold m_Or_hasBit
  cases hb : bt x n with
  | true => rw [if_pos ((hb_iff hn x).mpr hb)]
  | false => rw [if_neg (fun hc => by rw [(hb_iff hn x).mp hc] at hb; cases hb)]
theorem b_one {n : Nat} (hn : n < 32) {i : Nat} (hi : i < 32) : bt (1 <<< (nI n &&& 31)) i = decide (i = n) := by
  rw [b_shl n hn 1 hi, b_1 (i - n) (by omega)]
  by_cases h : i = n
  · subst h; simp
  · by_cases h2 : n ≤ i
    · simp [h, h2]; omega
    · simp [h, h2]
theorem ix_ok {α : Type} {n N : Nat} {k : Option α} (h : n < N) (hN : N < 2 ^ 31) : ixg (nI n) N k = k := if_neg (nI_in h hN)
theorem i_le {a b : Nat} (ha : a < 2 ^ 31) (hb : b < 2 ^ 31) : (nI a ≤ nI b) = (a ≤ b) := propext (nI_leI ha hb)
theorem i_lt {a b : Nat} (ha : a < 2 ^ 31) (hb : b < 2 ^ 31) : (nI a < nI b) = (a < b) := propext (nI_ltI ha hb)
theorem i_eq {a b : Nat} (ha : a < 2 ^ 31) (hb : b < 2 ^ 31) : (nI a = nI b) = (a = b) := propext (nI_eq ha hb)
theorem bI0 (b : Bool) : (bI b = 0) = (b = false) := by cases b <;> simp [bI]
theorem bI1 (b : Bool) : (bI b = 1) = (b = true) := by cases b <;> simp [bI]
theorem bIe (a b : Bool) : (bI a = bI b) = (a = b) := by cases a <;> cases b <;> simp [bI]
theorem e_bd1 {α0 δ : Type} (a0 : α0) (f : α0 → Option δ) : bd1 (some a0) f = f a0 := rfl
theorem e_bd2 {α0 α1 δ : Type} (a0 : α0) (a1 : α1) (f : α0 → α1 → Option δ) : bd2 (some (a0, a1)) f = f a0 a1 := rfl
theorem e_bd3 {α0 α1 α2 δ : Type} (a0 : α0) (a1 : α1) (a2 : α2) (f : α0 → α1 → α2 → Option δ) : bd3 (some (a0, a1, a2)) f = f a0 a1 a2 := rfl
theorem e_bd4 {α0 α1 α2 α3 δ : Type} (a0 : α0) (a1 : α1) (a2 : α2) (a3 : α3) (f : α0 → α1 → α2 → α3 → Option δ) : bd4 (some (a0, a1, a2, a3)) f = f a0 a1 a2 a3 := rfl
theorem e_bd5 {α0 α1 α2 α3 α4 δ : Type} (a0 : α0) (a1 : α1) (a2 : α2) (a3 : α3) (a4 : α4) (f : α0 → α1 → α2 → α3 → α4 → Option δ) : bd5 (some (a0, a1, a2, a3, a4)) f = f a0 a1 a2 a3 a4 := rfl
theorem e_bd6 {α0 α1 α2 α3 α4 α5 δ : Type} (a0 : α0) (a1 : α1) (a2 : α2) (a3 : α3) (a4 : α4) (a5 : α5) (f : α0 → α1 → α2 → α3 → α4 → α5 → Option δ) : bd6 (some (a0, a1, a2, a3, a4, a5)) f = f a0 a1 a2 a3 a4 a5 := rfl
theorem e_bd7 {α0 α1 α2 α3 α4 α5 α6 δ : Type} (a0 : α0) (a1 : α1) (a2 : α2) (a3 : α3) (a4 : α4) (a5 : α5) (a6 : α6) (f : α0 → α1 → α2 → α3 → α4 → α5 → α6 → Option δ) : bd7 (some (a0, a1, a2, a3, a4, a5, a6)) f = f a0 a1 a2 a3 a4 a5 a6 := rfl
theorem li0 : (0 : Int32) = nI 0 := rfl
theorem li1 : (1 : Int32) = nI 1 := rfl
theorem li2 : (2 : Int32) = nI 2 := rfl
theorem li3 : (3 : Int32) = nI 3 := rfl
theorem li4 : (4 : Int32) = nI 4 := rfl
theorem li5 : (5 : Int32) = nI 5 := rfl
theorem li6 : (6 : Int32) = nI 6 := rfl
theorem li7 : (7 : Int32) = nI 7 := rfl
theorem li8 : (8 : Int32) = nI 8 := rfl
theorem li9 : (9 : Int32) = nI 9 := rfl
theorem li10 : (10 : Int32) = nI 10 := rfl
theorem li12 : (12 : Int32) = nI 12 := rfl
theorem li15 : (15 : Int32) = nI 15 := rfl
theorem li20 : (20 : Int32) = nI 20 := rfl
theorem li21 : (21 : Int32) = nI 21 := rfl
theorem li33 : (33 : Int32) = nI 33 := rfl
theorem li38 : (38 : Int32) = nI 38 := rfl
theorem li40 : (40 : Int32) = nI 40 := rfl
theorem li41 : (41 : Int32) = nI 41 := rfl
theorem li48 : (48 : Int32) = nI 48 := rfl
theorem li57 : (57 : Int32) = nI 57 := rfl
theorem li58 : (58 : Int32) = nI 58 := rfl
theorem li59 : (59 : Int32) = nI 59 := rfl
theorem li65 : (65 : Int32) = nI 65 := rfl
theorem li67 : (67 : Int32) = nI 67 := rfl
theorem li72 : (72 : Int32) = nI 72 := rfl
theorem li80 : (80 : Int32) = nI 80 := rfl
theorem li83 : (83 : Int32) = nI 83 := rfl
theorem li86 : (86 : Int32) = nI 86 := rfl
theorem li87 : (87 : Int32) = nI 87 := rfl
theorem li90 : (90 : Int32) = nI 90 := rfl
theorem li100 : (100 : Int32) = nI 100 := rfl
theorem li124 : (124 : Int32) = nI 124 := rfl
theorem li126 : (126 : Int32) = nI 126 := rfl
theorem li149 : (149 : Int32) = nI 149 := rfl
theorem li300 : (300 : Int32) = nI 300 := rfl
theorem li1000 : (1000 : Int32) = nI 1000 := rfl
theorem li10000 : (10000 : Int32) = nI 10000 := rfl
theorem li100000 : (100000 : Int32) = nI 100000 := rfl
theorem li999999 : (999999 : Int32) = nI 999999 := rfl
theorem ti0 : (0 : Int32).toInt = 0 := by decide
theorem ti1 : (1 : Int32).toInt = 1 := by decide
theorem ti2 : (2 : Int32).toInt = 2 := by decide
theorem ti3 : (3 : Int32).toInt = 3 := by decide
theorem ti4 : (4 : Int32).toInt = 4 := by decide
theorem ti5 : (5 : Int32).toInt = 5 := by decide
theorem ti6 : (6 : Int32).toInt = 6 := by decide
theorem ti7 : (7 : Int32).toInt = 7 := by decide
theorem ti8 : (8 : Int32).toInt = 8 := by decide
theorem ti9 : (9 : Int32).toInt = 9 := by decide
theorem ti10 : (10 : Int32).toInt = 10 := by decide
theorem ti12 : (12 : Int32).toInt = 12 := by decide
theorem ti15 : (15 : Int32).toInt = 15 := by decide
theorem ti20 : (20 : Int32).toInt = 20 := by decide
theorem ti21 : (21 : Int32).toInt = 21 := by decide
theorem ti33 : (33 : Int32).toInt = 33 := by decide
theorem ti38 : (38 : Int32).toInt = 38 := by decide
theorem ti40 : (40 : Int32).toInt = 40 := by decide
theorem ti41 : (41 : Int32).toInt = 41 := by decide
theorem ti48 : (48 : Int32).toInt = 48 := by decide
theorem ti57 : (57 : Int32).toInt = 57 := by decide
theorem ti58 : (58 : Int32).toInt = 58 := by decide
theorem ti59 : (59 : Int32).toInt = 59 := by decide
theorem ti65 : (65 : Int32).toInt = 65 := by decide
theorem ti67 : (67 : Int32).toInt = 67 := by decide
theorem ti72 : (72 : Int32).toInt = 72 := by decide
theorem ti80 : (80 : Int32).toInt = 80 := by decide
theorem ti83 : (83 : Int32).toInt = 83 := by decide
theorem ti86 : (86 : Int32).toInt = 86 := by decide
theorem ti87 : (87 : Int32).toInt = 87 := by decide
theorem ti90 : (90 : Int32).toInt = 90 := by decide
theorem ti100 : (100 : Int32).toInt = 100 := by decide
theorem ti124 : (124 : Int32).toInt = 124 := by decide
theorem ti126 : (126 : Int32).toInt = 126 := by decide
theorem ti149 : (149 : Int32).toInt = 149 := by decide
theorem ti300 : (300 : Int32).toInt = 300 := by decide
theorem ti1000 : (1000 : Int32).toInt = 1000 := by decide
theorem ti10000 : (10000 : Int32).toInt = 10000 := by decide
theorem ti100000 : (100000 : Int32).toInt = 100000 := by decide
theorem ti999999 : (999999 : Int32).toInt = 999999 := by decide
theorem ti14 : (14 : Int32).toInt = 14 := by decide
theorem tl0 : (0 : Int64).toInt = 0 := by decide
theorem tl1 : (1 : Int64).toInt = 1 := by decide
theorem tl9 : (9 : Int64).toInt = 9 := by decide
theorem tl15 : (15 : Int64).toInt = 15 := by decide
theorem tl33 : (33 : Int64).toInt = 33 := by decide
theorem tl126 : (126 : Int64).toInt = 126 := by decide
theorem tl1000 : (1000 : Int64).toInt = 1000 := by decide
theorem tl100000 : (100000 : Int64).toInt = 100000 := by decide
theorem tl999999 : (999999 : Int64).toInt = 999999 := by decide
theorem tl1000000 : (1000000 : Int64).toInt = 1000000 := by decide
theorem tl1000000000 : (1000000000 : Int64).toInt = 1000000000 := by decide
theorem md_in (x a b : Int64) : m_Md_in x a b = some (decide (a.toInt ≤ x.toInt ∧ x.toInt ≤ b.toInt)) := by
  unfold m_Md_in
  simp only [lg_cmp_lt, lg_cmp_gt, Int64.lt_iff_toInt_lt]
  by_cases h1 : x.toInt < a.toInt
  · rw [if_pos h1, decide_eq_false (by omega)]
  · by_cases h2 : b.toInt < x.toInt
    · rw [if_neg h1, if_pos h2, decide_eq_false (by omega)]
    · rw [if_neg h1, if_neg h2, decide_eq_true (by omega)]
theorem gd32 (x a b : Int32) : (if x < a then some false else (if b < x then some false else some true)) = some (decide (a.toInt ≤ x.toInt ∧ x.toInt ≤ b.toInt)) := by
  simp only [Int32.lt_iff_toInt_lt]
  by_cases h1 : x.toInt < a.toInt
  · rw [if_pos h1, decide_eq_false (by omega)]
  · by_cases h2 : b.toInt < x.toInt
    · rw [if_neg h1, if_pos h2, decide_eq_false (by omega)]
    · rw [if_neg h1, if_neg h2, decide_eq_true (by omega)]
theorem or_code (x : Int32) : m_Or_isCode x = some (decide (1 ≤ x.toInt ∧ x.toInt ≤ 999999)) := by unfold m_Or_isCode; rw [gd32, ti1, ti999999]
theorem or_land (x : Int32) : m_Or_isLand x = some (decide (0 ≤ x.toInt ∧ x.toInt ≤ 9)) := by
  unfold m_Or_isLand
  simp only [Int32.lt_iff_toInt_lt, Int32.le_iff_toInt_le, ti0, ti10]
  by_cases h1 : x.toInt < 0
  · rw [if_pos h1, decide_eq_false (by omega)]
  · by_cases h2 : 10 ≤ x.toInt
    · rw [if_neg h1, if_pos h2, decide_eq_false (by omega)]
    · rw [if_neg h1, if_neg h2, decide_eq_true (by omega)]
theorem or_proc (x : Int32) : m_Or_isProcess x = some (decide (0 ≤ x.toInt ∧ x.toInt ≤ 15)) := by unfold m_Or_isProcess; rw [gd32, ti0, ti15]
theorem or_day (x : Int32) : m_Or_isDay x = some (decide (0 ≤ x.toInt ∧ x.toInt ≤ 100000)) := by unfold m_Or_isDay; rw [gd32, ti0, ti100000]
theorem or_cents (x : Int64) : m_Or_isCents x = some (decide (0 ≤ x.toInt ∧ x.toInt ≤ 1000000000)) := by
  have h := md_in x 0 1000000000
  rw [tl0, tl1000000000] at h
  exact h
theorem md_code (x : Int32) : m_Md_in x.toInt64 1 999999 = some (decide (1 ≤ x.toInt ∧ x.toInt ≤ 999999)) := by rw [md_in, Int32.toInt_toInt64, tl1, tl999999]
theorem md_land (x : Int32) : m_Md_in x.toInt64 0 9 = some (decide (0 ≤ x.toInt ∧ x.toInt ≤ 9)) := by rw [md_in, Int32.toInt_toInt64, tl0, tl9]
theorem md_proc (x : Int32) : m_Md_in x.toInt64 0 15 = some (decide (0 ≤ x.toInt ∧ x.toInt ≤ 15)) := by rw [md_in, Int32.toInt_toInt64, tl0, tl15]
theorem md_bit (x : Int32) : m_Md_in x.toInt64 0 1 = some (decide (0 ≤ x.toInt ∧ x.toInt ≤ 1)) := by rw [md_in, Int32.toInt_toInt64, tl0, tl1]
theorem md_sign (x : Int32) : m_Md_in x.toInt64 33 126 = some (decide (33 ≤ x.toInt ∧ x.toInt ≤ 126)) := by rw [md_in, Int32.toInt_toInt64, tl33, tl126]
theorem md_thou (x : Int32) : m_Md_in x.toInt64 1 1000 = some (decide (1 ≤ x.toInt ∧ x.toInt ≤ 1000)) := by rw [md_in, Int32.toInt_toInt64, tl1, tl1000]
theorem md_upto (x y : Int32) : m_Md_in x.toInt64 0 y.toInt64 = some (decide (0 ≤ x.toInt ∧ x.toInt ≤ y.toInt)) := by rw [md_in, Int32.toInt_toInt64, Int32.toInt_toInt64, tl0]
theorem md_day (x : Int32) : m_Md_isDay x = some (decide (0 ≤ x.toInt ∧ x.toInt ≤ 100000)) := by unfold m_Md_isDay; rw [md_in, Int32.toInt_toInt64, tl0, tl100000]; rfl
theorem md_cents (x : Int64) : m_Md_in x 0 1000000000 = some (decide (0 ≤ x.toInt ∧ x.toInt ≤ 1000000000)) := by rw [md_in, tl0, tl1000000000]
theorem nI_mk {x : Int32} {n : Nat} (h : x.toInt = (n : Int)) : x = nI n := by
  have h1 : ¬ x < 0 := by rw [Int32.lt_iff_toInt_lt, ti0]; omega
  obtain ⟨j, hj, rfl⟩ := nI_of h1
  rw [nI_toInt hj] at h
  rw [show j = n by omega]
theorem nI_ex {x : Int32} {m : Nat} (h0 : 0 ≤ x.toInt) (h : x.toInt ≤ (m : Int)) : ∃ n : Nat, n ≤ m ∧ x = nI n := ⟨x.toInt.toNat, by omega, nI_mk (by omega)⟩
theorem lN_ex {x : Int64} {m : Nat} (h0 : 0 ≤ x.toInt) (h : x.toInt ≤ (m : Int)) : ∃ n : Nat, n ≤ m ∧ x = lN n := by
  have h1 : ¬ x < 0 := by rw [Int64.lt_iff_toInt_lt, tl0]; omega
  obtain ⟨j, hj, rfl⟩ := pk_lOf h1
  rw [pk_lT hj] at h
  exact ⟨j, by omega, rfl⟩
