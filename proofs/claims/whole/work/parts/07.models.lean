def m_Or_isCode (p1 : Int32)  : Option Bool :=
    if p1 < 1 then (
    some (false))
    else (
    if 999999 < p1 then (
    some (false))
    else (
    some (true)))
def m_Or_isLand (p1 : Int32)  : Option Bool :=
    if p1 < 0 then (
    some (false))
    else (
    if 10 ≤ p1 then (
    some (false))
    else (
    some (true)))
def m_Or_isCents (p1 : Int64)  : Option Bool :=
    if (lg_cmp p1 0) < 0 then (
    some (false))
    else (
    if 0 < (lg_cmp p1 1000000000) then (
    some (false))
    else (
    some (true)))
def m_Or_isProcess (p1 : Int32)  : Option Bool :=
    if p1 < 0 then (
    some (false))
    else (
    if 15 < p1 then (
    some (false))
    else (
    some (true)))
def m_Or_isDay (p1 : Int32)  : Option Bool :=
    if p1 < 0 then (
    some (false))
    else (
    if 100000 < p1 then (
    some (false))
    else (
    some (true)))
def m_Or_isDigit (p1 : Int32)  : Option Bool :=
    if p1 < 48 then (
    some (false))
    else (
    if 57 < p1 then (
    some (false))
    else (
    some (true)))
def m_Or_isLetter (p1 : Int32)  : Option Bool :=
    if p1 < 65 then (
    some (false))
    else (
    if 90 < p1 then (
    some (false))
    else (
    some (true)))
def m_Or_hasBit (p1 : Int32) (p2 : Int32)  : Option Bool :=
    if ((p1 >>> (p2 &&& 31)) &&& 1) = 1 then (
    some (true))
    else (
    some (false))
def k_Or_beginning_4  (p1 : Int32) (p2 : Int32) : Nat → Int32 → Int32 → Option Int32
  | 0, _, _ => none
  | n + 1, x2, x3 =>
    if 6 ≤ x3 then (
    some (x2))
    else (
    k_Or_beginning_4 p1 p2 n (x2 / 10) (x3 + 1))
theorem k_Or_beginning_4_s  (p1 : Int32) (p2 : Int32) (n : Nat) (x2 : Int32) (x3 : Int32) : k_Or_beginning_4 p1 p2 (n + 1) x2 x3 = (
    if 6 ≤ x3 then (
    some (x2))
    else (
    k_Or_beginning_4 p1 p2 n (x2 / 10) (x3 + 1))) := rfl
theorem k_Or_beginning_4_z  (p1 : Int32) (p2 : Int32) (x2 : Int32) (x3 : Int32) : k_Or_beginning_4 p1 p2 0 x2 x3 = none := rfl
def m_Or_beginning (p1 : Int32) (p2 : Int32)  : Option Int32 :=
    k_Or_beginning_4 p1 p2 2000 p1 p2
def k_Or_greatestDivisor_9  (p1 : Int64) (p2 : Int64) : Nat → Int64 → Int64 → Int32 → Option Int64
  | 0, _, _, _ => none
  | n + 1, x4, x6, x8 =>
    if 100 ≤ x8 then (
    some (x4))
    else (
    if (lg_cmp x6 0) = 0 then (
    some (x4))
    else (
    nzgJ x6 (
    k_Or_greatestDivisor_9 p1 p2 n x6 (x4 - x4 / x6 * x6) (x8 + 1))))
theorem k_Or_greatestDivisor_9_s  (p1 : Int64) (p2 : Int64) (n : Nat) (x4 : Int64) (x6 : Int64) (x8 : Int32) : k_Or_greatestDivisor_9 p1 p2 (n + 1) x4 x6 x8 = (
    if 100 ≤ x8 then (
    some (x4))
    else (
    if (lg_cmp x6 0) = 0 then (
    some (x4))
    else (
    nzgJ x6 (
    k_Or_greatestDivisor_9 p1 p2 n x6 (x4 - x4 / x6 * x6) (x8 + 1))))) := rfl
theorem k_Or_greatestDivisor_9_z  (p1 : Int64) (p2 : Int64) (x4 : Int64) (x6 : Int64) (x8 : Int32) : k_Or_greatestDivisor_9 p1 p2 0 x4 x6 x8 = none := rfl
def m_Or_greatestDivisor (p1 : Int64) (p2 : Int64)  : Option Int64 :=
    k_Or_greatestDivisor_9 p1 p2 2000 p1 p2 0
def m_Text_add (p1 : Int32) (tlen : Int32) (tsg : Nat → Int32) : Option (Int32 × (Nat → Int32)) :=
    ixg tlen 300 (
    some (tlen + 1, upd tsg tlen.toNatClampNeg (vp_nar .char p1)))
def m_Text_passesSign (p1 : Int32) (tlen : Int32) (tsg : Nat → Int32) (tpl : Int32) : Option (Bool × Int32) :=
    if tlen ≤ tpl then (
    some (false, tpl))
    else (
    ixg tpl 300 (
    if (tsg tpl.toNatClampNeg) = p1 then (
    some (true, tpl + 1))
    else (
    some (false, tpl))))
def k_Text_passesDigits_72 (tlen : Int32) (tsg : Nat → Int32) (p1 : Int32) (p2 : Int32) (x3 : Int32) (x4 : Int32) (tpl : Int32) : Option (Bool × Int32) :=
    if x3 ≤ 0 then (
    some (false, tpl))
    else (
    if p2 < x4 then (
    some (false, tpl))
    else (
    some (true, tpl)))
def k_Text_passesDigits_5 (tlen : Int32) (tsg : Nat → Int32) (p1 : Int32) (p2 : Int32) : Nat → Int32 → Int32 → Int32 → Option (Bool × Int32)
  | 0, _, _, _ => none
  | n + 1, x3, x4, tpl =>
    if p1 ≤ x3 then (
    k_Text_passesDigits_72 tlen tsg p1 p2  x3 x4 tpl)
    else (
    if tlen ≤ tpl then (
    k_Text_passesDigits_72 tlen tsg p1 p2  x3 x4 tpl)
    else (
    ixg tpl 300 (
    bd1 (m_Or_isDigit (tsg tpl.toNatClampNeg)) (fun r_30 =>
    if (bI r_30) = 0 then (
    k_Text_passesDigits_72 tlen tsg p1 p2  x3 x4 tpl)
    else (
    ixg tpl 300 (
    k_Text_passesDigits_5 tlen tsg p1 p2 n (x3 + 1) ((x4 * 10) + ((tsg tpl.toNatClampNeg) - 48)) (tpl + 1)))))))
theorem k_Text_passesDigits_5_s (tlen : Int32) (tsg : Nat → Int32) (p1 : Int32) (p2 : Int32) (n : Nat) (x3 : Int32) (x4 : Int32) (tpl : Int32) : k_Text_passesDigits_5 tlen tsg p1 p2 (n + 1) x3 x4 tpl = (
    if p1 ≤ x3 then (
    k_Text_passesDigits_72 tlen tsg p1 p2  x3 x4 tpl)
    else (
    if tlen ≤ tpl then (
    k_Text_passesDigits_72 tlen tsg p1 p2  x3 x4 tpl)
    else (
    ixg tpl 300 (
    bd1 (m_Or_isDigit (tsg tpl.toNatClampNeg)) (fun r_30 =>
    if (bI r_30) = 0 then (
    k_Text_passesDigits_72 tlen tsg p1 p2  x3 x4 tpl)
    else (
    ixg tpl 300 (
    k_Text_passesDigits_5 tlen tsg p1 p2 n (x3 + 1) ((x4 * 10) + ((tsg tpl.toNatClampNeg) - 48)) (tpl + 1)))))))) := rfl
theorem k_Text_passesDigits_5_z (tlen : Int32) (tsg : Nat → Int32) (p1 : Int32) (p2 : Int32) (x3 : Int32) (x4 : Int32) (tpl : Int32) : k_Text_passesDigits_5 tlen tsg p1 p2 0 x3 x4 tpl = none := rfl
def m_Text_passesDigits (p1 : Int32) (p2 : Int32) (tlen : Int32) (tsg : Nat → Int32) (tpl : Int32) : Option (Bool × Int32) :=
    k_Text_passesDigits_5 tlen tsg p1 p2 2000 0 0 tpl
def m_Text_passesFactor  (tlen : Int32) (tsg : Nat → Int32) (tpl : Int32) : Option (Bool × Int32) :=
    bd2 (m_Text_passesSign 86 tlen tsg tpl) (fun r_3 tpl_3 =>
    if (bI r_3) = 0 then (
    bd2 (m_Text_passesSign 80 tlen tsg tpl_3) (fun r_20 tpl_20 =>
    if (bI r_20) = 0 then (
    bd2 (m_Text_passesSign 87 tlen tsg tpl_20) (fun r_37 tpl_37 =>
    if (bI r_37) = 0 then (
    bd2 (m_Text_passesSign 67 tlen tsg tpl_37) (fun r_46 tpl_46 =>
    if (bI r_46) = 0 then (
    bd2 (m_Text_passesSign 72 tlen tsg tpl_46) (fun r_55 tpl_55 =>
    if (bI r_55) = 0 then (
    bd2 (m_Text_passesSign 83 tlen tsg tpl_55) (fun r_64 tpl_64 =>
    if (bI r_64) = 0 then (
    some (false, tpl_64))
    else (
    some (true, tpl_64))))
    else (
    some (true, tpl_55))))
    else (
    some (true, tpl_46))))
    else (
    some (true, tpl_37))))
    else (
    bd2 (m_Text_passesDigits 2 15 tlen tsg tpl_20) (fun r_30 tpl_30 =>
    some (r_30, tpl_30)))))
    else (
    bd2 (m_Text_passesDigits 3 100 tlen tsg tpl_3) (fun r_13 tpl_13 =>
    some (r_13, tpl_13))))
def k_Text_passesRule_76 (tlen : Int32) (tsg : Nat → Int32)  (Ko4 : Int32 → Int32 → Int32 → Option (Bool × Int32)) (x1 : Int32) (x2 : Int32) (tpl : Int32) : Option (Bool × Int32) :=
    bd2 (m_Text_passesSign 38 tlen tsg tpl) (fun r_79 tpl_79 =>
    if (bI r_79) = 0 then (
    bd2 (m_Text_passesSign 124 tlen tsg tpl_79) (fun r_88 tpl_88 =>
    if (bI r_88) = 0 then (
    some (false, tpl_88))
    else (
    Ko4 x1 (x2 + 1) tpl_88)))
    else (
    Ko4 x1 (x2 + 1) tpl_79))
def k_Text_passesRule_61 (tlen : Int32) (tsg : Nat → Int32)  (Ko4 : Int32 → Int32 → Int32 → Option (Bool × Int32)) (x1 : Int32) (x2 : Int32) (tpl : Int32) : Option (Bool × Int32) :=
    if x1 = 0 then (
    bd2 (m_Text_passesSign 59 tlen tsg tpl) (fun r_68 tpl_68 =>
    if (bI r_68) = 0 then (
    k_Text_passesRule_76 tlen tsg Ko4  x1 x2 tpl_68)
    else (
    some (true, tpl_68))))
    else (
    k_Text_passesRule_76 tlen tsg Ko4  x1 x2 tpl)
def k_Text_passesRule_42 (tlen : Int32) (tsg : Nat → Int32)  (Ko4 : Int32 → Int32 → Int32 → Option (Bool × Int32)) : Nat → Int32 → Int32 → Int32 → Option (Bool × Int32)
  | 0, _, _, _ => none
  | n + 1, x1, x2, tpl =>
    if x1 ≤ 0 then (
    k_Text_passesRule_61 tlen tsg Ko4  x1 x2 tpl)
    else (
    bd2 (m_Text_passesSign 41 tlen tsg tpl) (fun r_49 tpl_49 =>
    if (bI r_49) = 0 then (
    k_Text_passesRule_61 tlen tsg Ko4  x1 x2 tpl_49)
    else (
    k_Text_passesRule_42 tlen tsg Ko4 n (x1 + (-1)) x2 tpl_49)))
theorem k_Text_passesRule_42_s (tlen : Int32) (tsg : Nat → Int32)  (Ko4 : Int32 → Int32 → Int32 → Option (Bool × Int32)) (n : Nat) (x1 : Int32) (x2 : Int32) (tpl : Int32) : k_Text_passesRule_42 tlen tsg Ko4 (n + 1) x1 x2 tpl = (
    if x1 ≤ 0 then (
    k_Text_passesRule_61 tlen tsg Ko4  x1 x2 tpl)
    else (
    bd2 (m_Text_passesSign 41 tlen tsg tpl) (fun r_49 tpl_49 =>
    if (bI r_49) = 0 then (
    k_Text_passesRule_61 tlen tsg Ko4  x1 x2 tpl_49)
    else (
    k_Text_passesRule_42 tlen tsg Ko4 n (x1 + (-1)) x2 tpl_49)))) := rfl
theorem k_Text_passesRule_42_z (tlen : Int32) (tsg : Nat → Int32)  (Ko4 : Int32 → Int32 → Int32 → Option (Bool × Int32)) (x1 : Int32) (x2 : Int32) (tpl : Int32) : k_Text_passesRule_42 tlen tsg Ko4 0 x1 x2 tpl = none := rfl
def k_Text_passesRule_12 (tlen : Int32) (tsg : Nat → Int32)  (Ko4 : Int32 → Int32 → Int32 → Option (Bool × Int32)) : Nat → Int32 → Int32 → Int32 → Option (Bool × Int32)
  | 0, _, _, _ => none
  | n + 1, x1, x2, tpl =>
    if 8 ≤ x1 then (
    bd2 (m_Text_passesFactor tlen tsg tpl) (fun r_34 tpl_34 =>
    if (bI r_34) = 0 then (
    some (false, tpl_34))
    else (
    k_Text_passesRule_42 tlen tsg Ko4 2000 x1 x2 tpl_34)))
    else (
    bd2 (m_Text_passesSign 40 tlen tsg tpl) (fun r_21 tpl_21 =>
    if (bI r_21) = 0 then (
    bd2 (m_Text_passesFactor tlen tsg tpl_21) (fun r_34 tpl_34 =>
    if (bI r_34) = 0 then (
    some (false, tpl_34))
    else (
    k_Text_passesRule_42 tlen tsg Ko4 2000 x1 x2 tpl_34)))
    else (
    k_Text_passesRule_12 tlen tsg Ko4 n (x1 + 1) x2 tpl_21)))
theorem k_Text_passesRule_12_s (tlen : Int32) (tsg : Nat → Int32)  (Ko4 : Int32 → Int32 → Int32 → Option (Bool × Int32)) (n : Nat) (x1 : Int32) (x2 : Int32) (tpl : Int32) : k_Text_passesRule_12 tlen tsg Ko4 (n + 1) x1 x2 tpl = (
    if 8 ≤ x1 then (
    bd2 (m_Text_passesFactor tlen tsg tpl) (fun r_34 tpl_34 =>
    if (bI r_34) = 0 then (
    some (false, tpl_34))
    else (
    k_Text_passesRule_42 tlen tsg Ko4 2000 x1 x2 tpl_34)))
    else (
    bd2 (m_Text_passesSign 40 tlen tsg tpl) (fun r_21 tpl_21 =>
    if (bI r_21) = 0 then (
    bd2 (m_Text_passesFactor tlen tsg tpl_21) (fun r_34 tpl_34 =>
    if (bI r_34) = 0 then (
    some (false, tpl_34))
    else (
    k_Text_passesRule_42 tlen tsg Ko4 2000 x1 x2 tpl_34)))
    else (
    k_Text_passesRule_12 tlen tsg Ko4 n (x1 + 1) x2 tpl_21)))) := rfl
theorem k_Text_passesRule_12_z (tlen : Int32) (tsg : Nat → Int32)  (Ko4 : Int32 → Int32 → Int32 → Option (Bool × Int32)) (x1 : Int32) (x2 : Int32) (tpl : Int32) : k_Text_passesRule_12 tlen tsg Ko4 0 x1 x2 tpl = none := rfl
def k_Text_passesRule_4 (tlen : Int32) (tsg : Nat → Int32)  : Nat → Int32 → Int32 → Int32 → Option (Bool × Int32)
  | 0, _, _, _ => none
  | n + 1, x1, x2, tpl =>
    if tlen ≤ x2 then (
    some (false, tpl))
    else (
    k_Text_passesRule_12 tlen tsg (k_Text_passesRule_4 tlen tsg n) 2000 x1 x2 tpl)
theorem k_Text_passesRule_4_s (tlen : Int32) (tsg : Nat → Int32)  (n : Nat) (x1 : Int32) (x2 : Int32) (tpl : Int32) : k_Text_passesRule_4 tlen tsg (n + 1) x1 x2 tpl = (
    if tlen ≤ x2 then (
    some (false, tpl))
    else (
    k_Text_passesRule_12 tlen tsg (k_Text_passesRule_4 tlen tsg n) 2000 x1 x2 tpl)) := rfl
theorem k_Text_passesRule_4_z (tlen : Int32) (tsg : Nat → Int32)  (x1 : Int32) (x2 : Int32) (tpl : Int32) : k_Text_passesRule_4 tlen tsg 0 x1 x2 tpl = none := rfl
def m_Text_passesRule  (tlen : Int32) (tsg : Nat → Int32) (tpl : Int32) : Option (Bool × Int32) :=
    k_Text_passesRule_4 tlen tsg 2000 0 0 tpl
def m_Text_passesRow  (tlen : Int32) (tsg : Nat → Int32) (tpl : Int32) : Option (Bool × Int32) :=
    bd2 (m_Text_passesDigits 6 999999 tlen tsg tpl) (fun r_5 tpl_5 =>
    if (bI r_5) = 0 then (
    some (false, tpl_5))
    else (
    bd2 (m_Text_passesSign 58 tlen tsg tpl_5) (fun r_14 tpl_14 =>
    if (bI r_14) = 0 then (
    some (false, tpl_14))
    else (
    bd2 (m_Text_passesRule tlen tsg tpl_14) (fun r_21 tpl_21 =>
    if (bI r_21) = 0 then (
    some (false, tpl_21))
    else (
    some (true, tpl_21)))))))
def k_Text_rowsOrWrongPlace_7 (tlen : Int32) (tsg : Nat → Int32)  : Nat → Int32 → Int32 → Option (Int32 × Int32)
  | 0, _, _ => none
  | n + 1, x1, tpl =>
    if 20 < x1 then (
    some ((-1) - tpl, tpl))
    else (
    bd2 (m_Text_passesRow tlen tsg tpl) (fun r_14 tpl_14 =>
    if (bI r_14) = 0 then (
    some ((-1) - tpl_14, tpl_14))
    else (
    if tpl_14 = tlen then (
    some (x1, tpl_14))
    else (
    k_Text_rowsOrWrongPlace_7 tlen tsg n (x1 + 1) tpl_14))))
theorem k_Text_rowsOrWrongPlace_7_s (tlen : Int32) (tsg : Nat → Int32)  (n : Nat) (x1 : Int32) (tpl : Int32) : k_Text_rowsOrWrongPlace_7 tlen tsg (n + 1) x1 tpl = (
    if 20 < x1 then (
    some ((-1) - tpl, tpl))
    else (
    bd2 (m_Text_passesRow tlen tsg tpl) (fun r_14 tpl_14 =>
    if (bI r_14) = 0 then (
    some ((-1) - tpl_14, tpl_14))
    else (
    if tpl_14 = tlen then (
    some (x1, tpl_14))
    else (
    k_Text_rowsOrWrongPlace_7 tlen tsg n (x1 + 1) tpl_14))))) := rfl
theorem k_Text_rowsOrWrongPlace_7_z (tlen : Int32) (tsg : Nat → Int32)  (x1 : Int32) (tpl : Int32) : k_Text_rowsOrWrongPlace_7 tlen tsg 0 x1 tpl = none := rfl
def m_Text_rowsOrWrongPlace  (tlen : Int32) (tsg : Nat → Int32) (tpl : Int32) : Option (Int32 × Int32) :=
    k_Text_rowsOrWrongPlace_7 tlen tsg 2000 1 0
def m_Rows_replace (p2 : Int32) (p3 : Int32) (tsg : Nat → Int32) (rlen : Int32) (rsz : Int32) (rsg : Nat → Int32) : Option (Int32 × Int32 × (Nat → Int32)) :=
    acg .char 0 0 p2 300 300 tsg (
    some (p2, p3, va_cpy tsg rsg (0 : Int32).toNatClampNeg (0 : Int32).toNatClampNeg p2.toNatClampNeg))
def k_Rows_numberAt_4 (rlen : Int32) (rsg : Nat → Int32) (p1 : Int32) : Nat → Int32 → Int32 → Option Int32
  | 0, _, _ => none
  | n + 1, x2, x3 =>
    if rlen ≤ x3 then (
    some (x2))
    else (
    ixg x3 300 (
    bd1 (m_Or_isDigit (rsg x3.toNatClampNeg)) (fun r_18 =>
    if (bI r_18) = 0 then (
    some (x2))
    else (
    ixg x3 300 (
    k_Rows_numberAt_4 rlen rsg p1 n ((x2 * 10) + ((rsg x3.toNatClampNeg) - 48)) (x3 + 1))))))
theorem k_Rows_numberAt_4_s (rlen : Int32) (rsg : Nat → Int32) (p1 : Int32) (n : Nat) (x2 : Int32) (x3 : Int32) : k_Rows_numberAt_4 rlen rsg p1 (n + 1) x2 x3 = (
    if rlen ≤ x3 then (
    some (x2))
    else (
    ixg x3 300 (
    bd1 (m_Or_isDigit (rsg x3.toNatClampNeg)) (fun r_18 =>
    if (bI r_18) = 0 then (
    some (x2))
    else (
    ixg x3 300 (
    k_Rows_numberAt_4 rlen rsg p1 n ((x2 * 10) + ((rsg x3.toNatClampNeg) - 48)) (x3 + 1))))))) := rfl
theorem k_Rows_numberAt_4_z (rlen : Int32) (rsg : Nat → Int32) (p1 : Int32) (x2 : Int32) (x3 : Int32) : k_Rows_numberAt_4 rlen rsg p1 0 x2 x3 = none := rfl
def m_Rows_numberAt (p1 : Int32) (rlen : Int32) (rsg : Nat → Int32) : Option Int32 :=
    k_Rows_numberAt_4 rlen rsg p1 2000 0 p1
def k_Rows_startFor_10 (rlen : Int32) (rsg : Nat → Int32) (p1 : Int32) : Nat → Int32 → Int32 → Int32 → Int32 → Option Int32
  | 0, _, _, _, _ => none
  | n + 1, x2, x3, x4, x5 =>
    if rlen ≤ x5 then (
    some (x2))
    else (
    ixg x5 300 (
    if (rsg x5.toNatClampNeg) = 59 then (
    k_Rows_startFor_10 rlen rsg p1 n x2 x3 (x5 + 1) (x5 + 1))
    else (
    ixg x5 300 (
    if (rsg x5.toNatClampNeg) = 58 then (
    if (x5 - x4) < x3 then (
    k_Rows_startFor_10 rlen rsg p1 n x2 x3 x4 (x5 + 1))
    else (
    bd1 (m_Or_beginning p1 (x5 - x4)) (fun r_68 =>
    bd1 (m_Rows_numberAt x4 rlen rsg) (fun r_74 =>
    if r_68 = r_74 then (
    k_Rows_startFor_10 rlen rsg p1 n x4 (x5 - x4) x4 (x5 + 1))
    else (
    k_Rows_startFor_10 rlen rsg p1 n x2 x3 x4 (x5 + 1))))))
    else (
    k_Rows_startFor_10 rlen rsg p1 n x2 x3 x4 (x5 + 1))))))
theorem k_Rows_startFor_10_s (rlen : Int32) (rsg : Nat → Int32) (p1 : Int32) (n : Nat) (x2 : Int32) (x3 : Int32) (x4 : Int32) (x5 : Int32) : k_Rows_startFor_10 rlen rsg p1 (n + 1) x2 x3 x4 x5 = (
    if rlen ≤ x5 then (
    some (x2))
    else (
    ixg x5 300 (
    if (rsg x5.toNatClampNeg) = 59 then (
    k_Rows_startFor_10 rlen rsg p1 n x2 x3 (x5 + 1) (x5 + 1))
    else (
    ixg x5 300 (
    if (rsg x5.toNatClampNeg) = 58 then (
    if (x5 - x4) < x3 then (
    k_Rows_startFor_10 rlen rsg p1 n x2 x3 x4 (x5 + 1))
    else (
    bd1 (m_Or_beginning p1 (x5 - x4)) (fun r_68 =>
    bd1 (m_Rows_numberAt x4 rlen rsg) (fun r_74 =>
    if r_68 = r_74 then (
    k_Rows_startFor_10 rlen rsg p1 n x4 (x5 - x4) x4 (x5 + 1))
    else (
    k_Rows_startFor_10 rlen rsg p1 n x2 x3 x4 (x5 + 1))))))
    else (
    k_Rows_startFor_10 rlen rsg p1 n x2 x3 x4 (x5 + 1))))))) := rfl
theorem k_Rows_startFor_10_z (rlen : Int32) (rsg : Nat → Int32) (p1 : Int32) (x2 : Int32) (x3 : Int32) (x4 : Int32) (x5 : Int32) : k_Rows_startFor_10 rlen rsg p1 0 x2 x3 x4 x5 = none := rfl
def m_Rows_startFor (p1 : Int32) (rlen : Int32) (rsg : Nat → Int32) : Option Int32 :=
    k_Rows_startFor_10 rlen rsg p1 2000 (-1) 0 0 0
def m_Parts_add (p1 : Int32) (p2 : Int32) (p3 : Int64) (psz : Int32) (pcd : Nat → Int32) (pld : Nat → Int32) (pct : Nat → Int64) : Option (Int32 × Int32 × (Nat → Int32) × (Nat → Int32) × (Nat → Int64)) :=
    ixg psz 12 (
    ixg psz 12 (
    ixg psz 12 (
    some (psz + 1, psz + 1, upd pcd psz.toNatClampNeg p1, upd pld psz.toNatClampNeg p2, vp_updL pct psz.toNatClampNeg p3))))
def m_Parts_forget  (psz : Int32) : Option (Int32 × Int32) :=
    some (psz, 0)
def k_Parts_foreignParts_4 (psz : Int32) (pld : Nat → Int32) (p1 : Int32) : Nat → Int32 → Int32 → Option Int32
  | 0, _, _ => none
  | n + 1, x2, x3 =>
    if psz ≤ x3 then (
    some (x2))
    else (
    ixg x3 12 (
    bd1 (m_Or_hasBit p1 (pld x3.toNatClampNeg)) (fun r_19 =>
    if (bI r_19) = 0 then (
    k_Parts_foreignParts_4 psz pld p1 n (x2 + 1) (x3 + 1))
    else (
    k_Parts_foreignParts_4 psz pld p1 n x2 (x3 + 1)))))
theorem k_Parts_foreignParts_4_s (psz : Int32) (pld : Nat → Int32) (p1 : Int32) (n : Nat) (x2 : Int32) (x3 : Int32) : k_Parts_foreignParts_4 psz pld p1 (n + 1) x2 x3 = (
    if psz ≤ x3 then (
    some (x2))
    else (
    ixg x3 12 (
    bd1 (m_Or_hasBit p1 (pld x3.toNatClampNeg)) (fun r_19 =>
    if (bI r_19) = 0 then (
    k_Parts_foreignParts_4 psz pld p1 n (x2 + 1) (x3 + 1))
    else (
    k_Parts_foreignParts_4 psz pld p1 n x2 (x3 + 1)))))) := rfl
theorem k_Parts_foreignParts_4_z (psz : Int32) (pld : Nat → Int32) (p1 : Int32) (x2 : Int32) (x3 : Int32) : k_Parts_foreignParts_4 psz pld p1 0 x2 x3 = none := rfl
def m_Parts_foreignParts (p1 : Int32) (psz : Int32) (pld : Nat → Int32) : Option Int32 :=
    k_Parts_foreignParts_4 psz pld p1 2000 0 0
def k_Parts_foreignCents_5 (psz : Int32) (pld : Nat → Int32) (pct : Nat → Int64) (p1 : Int32) : Nat → Int64 → Int32 → Option Int64
  | 0, _, _ => none
  | n + 1, x2, x4 =>
    if psz ≤ x4 then (
    some (x2))
    else (
    ixg x4 12 (
    bd1 (m_Or_hasBit p1 (pld x4.toNatClampNeg)) (fun r_22 =>
    if (bI r_22) = 0 then (
    ixg x4 12 (
    k_Parts_foreignCents_5 psz pld pct p1 n (x2 + (pct x4.toNatClampNeg)) (x4 + 1)))
    else (
    k_Parts_foreignCents_5 psz pld pct p1 n x2 (x4 + 1)))))
theorem k_Parts_foreignCents_5_s (psz : Int32) (pld : Nat → Int32) (pct : Nat → Int64) (p1 : Int32) (n : Nat) (x2 : Int64) (x4 : Int32) : k_Parts_foreignCents_5 psz pld pct p1 (n + 1) x2 x4 = (
    if psz ≤ x4 then (
    some (x2))
    else (
    ixg x4 12 (
    bd1 (m_Or_hasBit p1 (pld x4.toNatClampNeg)) (fun r_22 =>
    if (bI r_22) = 0 then (
    ixg x4 12 (
    k_Parts_foreignCents_5 psz pld pct p1 n (x2 + (pct x4.toNatClampNeg)) (x4 + 1)))
    else (
    k_Parts_foreignCents_5 psz pld pct p1 n x2 (x4 + 1)))))) := rfl
theorem k_Parts_foreignCents_5_z (psz : Int32) (pld : Nat → Int32) (pct : Nat → Int64) (p1 : Int32) (x2 : Int64) (x4 : Int32) : k_Parts_foreignCents_5 psz pld pct p1 0 x2 x4 = none := rfl
def m_Parts_foreignCents (p1 : Int32) (psz : Int32) (pld : Nat → Int32) (pct : Nat → Int64) : Option Int64 :=
    k_Parts_foreignCents_5 psz pld pct p1 2000 0 0
def k_Parts_foreignCentsAlike_13 (psz : Int32) (pcd : Nat → Int32) (pld : Nat → Int32) (pct : Nat → Int64) (p1 : Int32) (p2 : Int32) (p3 : Int32) : Nat → Int32 → Int64 → Int32 → Option Int64
  | 0, _, _, _ => none
  | n + 1, x4, x5, x7 =>
    if psz ≤ x7 then (
    some (x5))
    else (
    ixg x7 12 (
    bd1 (m_Or_hasBit p1 (pld x7.toNatClampNeg)) (fun r_30 =>
    if (bI r_30) = 0 then (
    ixg x7 12 (
    bd1 (m_Or_beginning (pcd x7.toNatClampNeg) p3) (fun r_44 =>
    if r_44 = x4 then (
    ixg x7 12 (
    k_Parts_foreignCentsAlike_13 psz pcd pld pct p1 p2 p3 n x4 (x5 + (pct x7.toNatClampNeg)) (x7 + 1)))
    else (
    k_Parts_foreignCentsAlike_13 psz pcd pld pct p1 p2 p3 n x4 x5 (x7 + 1)))))
    else (
    k_Parts_foreignCentsAlike_13 psz pcd pld pct p1 p2 p3 n x4 x5 (x7 + 1)))))
theorem k_Parts_foreignCentsAlike_13_s (psz : Int32) (pcd : Nat → Int32) (pld : Nat → Int32) (pct : Nat → Int64) (p1 : Int32) (p2 : Int32) (p3 : Int32) (n : Nat) (x4 : Int32) (x5 : Int64) (x7 : Int32) : k_Parts_foreignCentsAlike_13 psz pcd pld pct p1 p2 p3 (n + 1) x4 x5 x7 = (
    if psz ≤ x7 then (
    some (x5))
    else (
    ixg x7 12 (
    bd1 (m_Or_hasBit p1 (pld x7.toNatClampNeg)) (fun r_30 =>
    if (bI r_30) = 0 then (
    ixg x7 12 (
    bd1 (m_Or_beginning (pcd x7.toNatClampNeg) p3) (fun r_44 =>
    if r_44 = x4 then (
    ixg x7 12 (
    k_Parts_foreignCentsAlike_13 psz pcd pld pct p1 p2 p3 n x4 (x5 + (pct x7.toNatClampNeg)) (x7 + 1)))
    else (
    k_Parts_foreignCentsAlike_13 psz pcd pld pct p1 p2 p3 n x4 x5 (x7 + 1)))))
    else (
    k_Parts_foreignCentsAlike_13 psz pcd pld pct p1 p2 p3 n x4 x5 (x7 + 1)))))) := rfl
theorem k_Parts_foreignCentsAlike_13_z (psz : Int32) (pcd : Nat → Int32) (pld : Nat → Int32) (pct : Nat → Int64) (p1 : Int32) (p2 : Int32) (p3 : Int32) (x4 : Int32) (x5 : Int64) (x7 : Int32) : k_Parts_foreignCentsAlike_13 psz pcd pld pct p1 p2 p3 0 x4 x5 x7 = none := rfl
def m_Parts_foreignCentsAlike (p1 : Int32) (p2 : Int32) (p3 : Int32) (psz : Int32) (pcd : Nat → Int32) (pld : Nat → Int32) (pct : Nat → Int64) : Option Int64 :=
    bd1 (m_Or_beginning p2 p3) (fun r_2 =>
    k_Parts_foreignCentsAlike_13 psz pcd pld pct p1 p2 p3 2000 r_2 0 0)
def m_Lands_addPair (p1 : Int32) (p2 : Int32) (lpr : Int32) (ljn : Nat → Int32) : Option (Bool × Int32 × (Nat → Int32)) :=
    ixg p1 10 (
    bd1 (m_Or_hasBit (ljn p1.toNatClampNeg) p2) (fun r_7 =>
    if (bI r_7) = 0 then (
    ixg p1 10 (
    ixg p1 10 (
    ixg p2 10 (
    ixg p2 10 (
    some (true, lpr + 1, upd (upd ljn p1.toNatClampNeg ((ljn p1.toNatClampNeg) ||| (1 <<< (p2 &&& 31)))) p2.toNatClampNeg (((upd ljn p1.toNatClampNeg ((ljn p1.toNatClampNeg) ||| (1 <<< (p2 &&& 31)))) p2.toNatClampNeg) ||| (1 <<< (p1 &&& 31)))))))))
    else (
    some (false, lpr, ljn))))
def k_Lands_ownLands_26 (lful : Bool) (ljn : Nat → Int32)  (Ko11 : Int32 → Int32 → Option Int32) : Nat → Int32 → Int32 → Int32 → Option Int32
  | 0, _, _, _ => none
  | n + 1, x1, x2, x3 =>
    if 10 ≤ x3 then (
    Ko11 x1 (x2 + 1))
    else (
    bd1 (m_Or_hasBit x1 x3) (fun r_34 =>
    if (bI r_34) = 0 then (
    k_Lands_ownLands_26 lful ljn Ko11 n x1 x2 (x3 + 1))
    else (
    ixg x3 10 (
    k_Lands_ownLands_26 lful ljn Ko11 n (x1 ||| (ljn x3.toNatClampNeg)) x2 (x3 + 1)))))
theorem k_Lands_ownLands_26_s (lful : Bool) (ljn : Nat → Int32)  (Ko11 : Int32 → Int32 → Option Int32) (n : Nat) (x1 : Int32) (x2 : Int32) (x3 : Int32) : k_Lands_ownLands_26 lful ljn Ko11 (n + 1) x1 x2 x3 = (
    if 10 ≤ x3 then (
    Ko11 x1 (x2 + 1))
    else (
    bd1 (m_Or_hasBit x1 x3) (fun r_34 =>
    if (bI r_34) = 0 then (
    k_Lands_ownLands_26 lful ljn Ko11 n x1 x2 (x3 + 1))
    else (
    ixg x3 10 (
    k_Lands_ownLands_26 lful ljn Ko11 n (x1 ||| (ljn x3.toNatClampNeg)) x2 (x3 + 1)))))) := rfl
theorem k_Lands_ownLands_26_z (lful : Bool) (ljn : Nat → Int32)  (Ko11 : Int32 → Int32 → Option Int32) (x1 : Int32) (x2 : Int32) (x3 : Int32) : k_Lands_ownLands_26 lful ljn Ko11 0 x1 x2 x3 = none := rfl
def k_Lands_ownLands_11 (lful : Bool) (ljn : Nat → Int32)  : Nat → Int32 → Int32 → Option Int32
  | 0, _, _ => none
  | n + 1, x1, x2 =>
    if (bI lful) = 0 then (
    some (x1))
    else (
    if 10 ≤ x2 then (
    some (x1))
    else (
    k_Lands_ownLands_26 lful ljn (k_Lands_ownLands_11 lful ljn n) 2000 x1 x2 0))
theorem k_Lands_ownLands_11_s (lful : Bool) (ljn : Nat → Int32)  (n : Nat) (x1 : Int32) (x2 : Int32) : k_Lands_ownLands_11 lful ljn (n + 1) x1 x2 = (
    if (bI lful) = 0 then (
    some (x1))
    else (
    if 10 ≤ x2 then (
    some (x1))
    else (
    k_Lands_ownLands_26 lful ljn (k_Lands_ownLands_11 lful ljn n) 2000 x1 x2 0))) := rfl
theorem k_Lands_ownLands_11_z (lful : Bool) (ljn : Nat → Int32)  (x1 : Int32) (x2 : Int32) : k_Lands_ownLands_11 lful ljn 0 x1 x2 = none := rfl
def m_Lands_ownLands  (lful : Bool) (ljn : Nat → Int32) : Option Int32 :=
    ixg 0 10 (
    k_Lands_ownLands_11 lful ljn 2000 (1 ||| (ljn (0 : Int32).toNatClampNeg)) 0)
def m_Proofs_add (p1 : Int32) (p2 : Int32) (p3 : Int32) (fsz : Int32) (fkd : Nat → Int32) (ffr : Nat → Int32) (fto : Nat → Int32) : Option (Int32 × Int32 × (Nat → Int32) × (Nat → Int32) × (Nat → Int32)) :=
    ixg fsz 20 (
    ixg fsz 20 (
    ixg fsz 20 (
    some ((fsz + 1) - 1, fsz + 1, upd fkd fsz.toNatClampNeg p1, upd ffr fsz.toNatClampNeg p2, upd fto fsz.toNatClampNeg p3))))
def k_Proofs_isGood_23 (fkd : Nat → Int32) (ffr : Nat → Int32) (fto : Nat → Int32) (p1 : Int32) (p2 : Int64) (p3 : Int32) (s0 : Bool) : Option Bool :=
    if (bI s0) = 0 then (
    some (false))
    else (
    ixg p1 20 (
    if p3 < (ffr p1.toNatClampNeg) then (
    some (false))
    else (
    ixg p1 20 (
    if (fto p1.toNatClampNeg) < p3 then (
    some (false))
    else (
    some (true))))))
def k_Proofs_isGood_18 (fkd : Nat → Int32) (ffr : Nat → Int32) (fto : Nat → Int32) (p1 : Int32) (p2 : Int64) (p3 : Int32)  : Option Bool :=
    k_Proofs_isGood_23 fkd ffr fto p1 p2 p3  true
def m_Proofs_isGood (p1 : Int32) (p2 : Int64) (p3 : Int32) (fkd : Nat → Int32) (ffr : Nat → Int32) (fto : Nat → Int32) : Option Bool :=
    ixg p1 20 (
    if (fkd p1.toNatClampNeg) = 1 then (
    k_Proofs_isGood_18 fkd ffr fto p1 p2 p3  )
    else (
    if 0 < (lg_cmp p2 1000000) then (
    k_Proofs_isGood_23 fkd ffr fto p1 p2 p3  false)
    else (
    k_Proofs_isGood_18 fkd ffr fto p1 p2 p3  )))
def m_Or_isShareWithin (p1 : Int32) (p2 : Int64) (psz : Int32) (pld : Nat → Int32) (pct : Nat → Int64) (lful : Bool) (ljn : Nat → Int32) : Option Bool :=
    bd1 (m_Lands_ownLands lful ljn) (fun r_8 =>
    bd1 (m_Parts_foreignCents r_8 psz pld pct) (fun r_11 =>
    if (lg_cmp p2 0) ≤ 0 then (
    some (false))
    else (
    if 0 < (lg_cmp (r_11 * 100) (((p1).toInt64) * p2)) then (
    some (false))
    else (
    some (true)))))
def m_Or_isChanged (p1 : Int32) (p2 : Int32) (p3 : Int64) (tup : Int32) (tdn : Int32) (psz : Int32) (pcd : Nat → Int32) (pld : Nat → Int32) (pct : Nat → Int64) (lful : Bool) (ljn : Nat → Int32) : Option Bool :=
    bd1 (m_Lands_ownLands lful ljn) (fun r_8 =>
    bd1 (m_Parts_foreignCentsAlike r_8 p1 p2 psz pcd pld pct) (fun r_13 =>
    if 0 < (lg_cmp (r_13 * ((tdn).toInt64)) (((tup).toInt64) * p3)) then (
    some (false))
    else (
    some (true))))
def m_Or_factorHolds (p1 : Int32) (p2 : Int32) (p3 : Int64) (done : Int32) (tup : Int32) (tdn : Int32) (rlen : Int32) (rsg : Nat → Int32) (psz : Int32) (pcd : Nat → Int32) (pld : Nat → Int32) (pct : Nat → Int64) (lful : Bool) (ljn : Nat → Int32) : Option Bool :=
    ixg p1 300 (
    if (rsg p1.toNatClampNeg) = 87 then (
    if psz = 0 then (
    some (true))
    else (
    some (false)))
    else (
    if (rsg p1.toNatClampNeg) = 67 then (
    bd1 (m_Or_isChanged p2 2 p3 tup tdn psz pcd pld pct lful ljn) (fun r_45 =>
    some (r_45)))
    else (
    if (rsg p1.toNatClampNeg) = 72 then (
    bd1 (m_Or_isChanged p2 4 p3 tup tdn psz pcd pld pct lful ljn) (fun r_60 =>
    some (r_60)))
    else (
    if (rsg p1.toNatClampNeg) = 83 then (
    bd1 (m_Or_isChanged p2 6 p3 tup tdn psz pcd pld pct lful ljn) (fun r_76 =>
    some (r_76)))
    else (
    bd1 (m_Rows_numberAt (p1 + 1) rlen rsg) (fun r_87 =>
    if (rsg p1.toNatClampNeg) = 86 then (
    bd1 (m_Or_isShareWithin r_87 p3 psz pld pct lful ljn) (fun r_103 =>
    some (r_103)))
    else (
    bd1 (m_Or_hasBit done r_87) (fun r_115 =>
    some (r_115)))))))))
def k_Or_keepAnswer_30  (p1 : Int32) (p2 : Bool) (s1 : Int32) (s2 : Int32) (s3 : Bool) (askd : Int32) (answ : Nat → Int32) : Option (Int32 × (Nat → Int32)) :=
    ixg s1 149 (
    some (askd + 1, upd answ s1.toNatClampNeg (s2 + (bI s3))))
def m_Or_keepAnswer (p1 : Int32) (p2 : Bool) (askd : Int32) (answ : Nat → Int32) : Option (Int32 × (Nat → Int32)) :=
    if 149 ≤ askd then (
    some (askd, answ))
    else (
    if (bI p2) = 0 then (
    k_Or_keepAnswer_30 p1 p2  askd (2 * p1) false askd answ)
    else (
    k_Or_keepAnswer_30 p1 p2  askd (2 * p1) true askd answ))
def k_Or_ruleHolds_91 (done : Int32) (tup : Int32) (tdn : Int32) (rlen : Int32) (rsg : Nat → Int32) (psz : Int32) (pcd : Nat → Int32) (pld : Nat → Int32) (pct : Nat → Int64) (lful : Bool) (ljn : Nat → Int32) (p1 : Int32) (p2 : Int32) (p3 : Int64) (Ko17 : Bool → Bool → Int32 → Int32 → Int32 → (Nat → Int32) → Option (Bool × Int32 × (Nat → Int32))) (x5 : Bool) (x6 : Bool) (x7 : Int32) (x8 : Int32) (x9 : Int32) (askd : Int32) (answ : Nat → Int32) : Option (Bool × Int32 × (Nat → Int32)) :=
    if x9 = 40 then (
    Ko17 x5 x6 (x7 + 1) (x8 + 1) askd answ)
    else (
    if x9 = 41 then (
    Ko17 x5 x6 (x7 + (-1)) (x8 + 1) askd answ)
    else (
    Ko17 x5 x6 x7 (x8 + 1) askd answ))
def k_Or_ruleHolds_160 (done : Int32) (tup : Int32) (tdn : Int32) (rlen : Int32) (rsg : Nat → Int32) (psz : Int32) (pcd : Nat → Int32) (pld : Nat → Int32) (pct : Nat → Int64) (lful : Bool) (ljn : Nat → Int32) (p1 : Int32) (p2 : Int32) (p3 : Int64) (Ko17 : Bool → Bool → Int32 → Int32 → Int32 → (Nat → Int32) → Option (Bool × Int32 × (Nat → Int32))) (x5 : Bool) (x6 : Bool) (x7 : Int32) (x8 : Int32) (x9 : Int32) (askd : Int32) (answ : Nat → Int32) : Option (Bool × Int32 × (Nat → Int32)) :=
    if x9 = 124 then (
    if (bI x5) = 0 then (
    Ko17 x5 x6 x7 (x8 + 1) askd answ)
    else (
    Ko17 x5 true x7 (x8 + 1) askd answ))
    else (
    Ko17 x5 x6 x7 (x8 + 1) askd answ)
def k_Or_ruleHolds_17 (done : Int32) (tup : Int32) (tdn : Int32) (rlen : Int32) (rsg : Nat → Int32) (psz : Int32) (pcd : Nat → Int32) (pld : Nat → Int32) (pct : Nat → Int64) (lful : Bool) (ljn : Nat → Int32) (p1 : Int32) (p2 : Int32) (p3 : Int64) : Nat → Bool → Bool → Int32 → Int32 → Int32 → (Nat → Int32) → Option (Bool × Int32 × (Nat → Int32))
  | 0, _, _, _, _, _, _ => none
  | n + 1, x5, x6, x7, x8, askd, answ =>
    if rlen ≤ x8 then (
    some (x5, askd, answ))
    else (
    ixg x8 300 (
    if (rsg x8.toNatClampNeg) = 59 then (
    some (x5, askd, answ))
    else (
    ixg x8 300 (
    if (bI x6) = 0 then (
    bd1 (m_Or_isLetter (rsg x8.toNatClampNeg)) (fun r_119 =>
    if (bI r_119) = 0 then (
    if (rsg x8.toNatClampNeg) = 38 then (
    if (bI x5) = 0 then (
    k_Or_ruleHolds_17 done tup tdn rlen rsg psz pcd pld pct lful ljn p1 p2 p3 n x5 true x7 (x8 + 1) askd answ)
    else (
    k_Or_ruleHolds_160 done tup tdn rlen rsg psz pcd pld pct lful ljn p1 p2 p3 (k_Or_ruleHolds_17 done tup tdn rlen rsg psz pcd pld pct lful ljn p1 p2 p3 n)  x5 x6 x7 x8 (rsg x8.toNatClampNeg) askd answ))
    else (
    k_Or_ruleHolds_160 done tup tdn rlen rsg psz pcd pld pct lful ljn p1 p2 p3 (k_Or_ruleHolds_17 done tup tdn rlen rsg psz pcd pld pct lful ljn p1 p2 p3 n)  x5 x6 x7 x8 (rsg x8.toNatClampNeg) askd answ))
    else (
    bd1 (m_Or_factorHolds x8 p2 p3 done tup tdn rlen rsg psz pcd pld pct lful ljn) (fun r_130 =>
    bd2 (m_Or_keepAnswer (x8 - p1) r_130 askd answ) (fun askd_142 answ_142 =>
    k_Or_ruleHolds_17 done tup tdn rlen rsg psz pcd pld pct lful ljn p1 p2 p3 n r_130 x6 x7 (x8 + 1) askd_142 answ_142)))))
    else (
    if x7 = 0 then (
    if (rsg x8.toNatClampNeg) = 41 then (
    k_Or_ruleHolds_17 done tup tdn rlen rsg psz pcd pld pct lful ljn p1 p2 p3 n x5 false x7 (x8 + 1) askd answ)
    else (
    if (rsg x8.toNatClampNeg) = 124 then (
    if (bI x5) = 0 then (
    k_Or_ruleHolds_17 done tup tdn rlen rsg psz pcd pld pct lful ljn p1 p2 p3 n x5 false x7 (x8 + 1) askd answ)
    else (
    k_Or_ruleHolds_91 done tup tdn rlen rsg psz pcd pld pct lful ljn p1 p2 p3 (k_Or_ruleHolds_17 done tup tdn rlen rsg psz pcd pld pct lful ljn p1 p2 p3 n)  x5 x6 x7 x8 (rsg x8.toNatClampNeg) askd answ))
    else (
    k_Or_ruleHolds_91 done tup tdn rlen rsg psz pcd pld pct lful ljn p1 p2 p3 (k_Or_ruleHolds_17 done tup tdn rlen rsg psz pcd pld pct lful ljn p1 p2 p3 n)  x5 x6 x7 x8 (rsg x8.toNatClampNeg) askd answ)))
    else (
    k_Or_ruleHolds_91 done tup tdn rlen rsg psz pcd pld pct lful ljn p1 p2 p3 (k_Or_ruleHolds_17 done tup tdn rlen rsg psz pcd pld pct lful ljn p1 p2 p3 n)  x5 x6 x7 x8 (rsg x8.toNatClampNeg) askd answ))))))
theorem k_Or_ruleHolds_17_s (done : Int32) (tup : Int32) (tdn : Int32) (rlen : Int32) (rsg : Nat → Int32) (psz : Int32) (pcd : Nat → Int32) (pld : Nat → Int32) (pct : Nat → Int64) (lful : Bool) (ljn : Nat → Int32) (p1 : Int32) (p2 : Int32) (p3 : Int64) (n : Nat) (x5 : Bool) (x6 : Bool) (x7 : Int32) (x8 : Int32) (askd : Int32) (answ : Nat → Int32) : k_Or_ruleHolds_17 done tup tdn rlen rsg psz pcd pld pct lful ljn p1 p2 p3 (n + 1) x5 x6 x7 x8 askd answ = (
    if rlen ≤ x8 then (
    some (x5, askd, answ))
    else (
    ixg x8 300 (
    if (rsg x8.toNatClampNeg) = 59 then (
    some (x5, askd, answ))
    else (
    ixg x8 300 (
    if (bI x6) = 0 then (
    bd1 (m_Or_isLetter (rsg x8.toNatClampNeg)) (fun r_119 =>
    if (bI r_119) = 0 then (
    if (rsg x8.toNatClampNeg) = 38 then (
    if (bI x5) = 0 then (
    k_Or_ruleHolds_17 done tup tdn rlen rsg psz pcd pld pct lful ljn p1 p2 p3 n x5 true x7 (x8 + 1) askd answ)
    else (
    k_Or_ruleHolds_160 done tup tdn rlen rsg psz pcd pld pct lful ljn p1 p2 p3 (k_Or_ruleHolds_17 done tup tdn rlen rsg psz pcd pld pct lful ljn p1 p2 p3 n)  x5 x6 x7 x8 (rsg x8.toNatClampNeg) askd answ))
    else (
    k_Or_ruleHolds_160 done tup tdn rlen rsg psz pcd pld pct lful ljn p1 p2 p3 (k_Or_ruleHolds_17 done tup tdn rlen rsg psz pcd pld pct lful ljn p1 p2 p3 n)  x5 x6 x7 x8 (rsg x8.toNatClampNeg) askd answ))
    else (
    bd1 (m_Or_factorHolds x8 p2 p3 done tup tdn rlen rsg psz pcd pld pct lful ljn) (fun r_130 =>
    bd2 (m_Or_keepAnswer (x8 - p1) r_130 askd answ) (fun askd_142 answ_142 =>
    k_Or_ruleHolds_17 done tup tdn rlen rsg psz pcd pld pct lful ljn p1 p2 p3 n r_130 x6 x7 (x8 + 1) askd_142 answ_142)))))
    else (
    if x7 = 0 then (
    if (rsg x8.toNatClampNeg) = 41 then (
    k_Or_ruleHolds_17 done tup tdn rlen rsg psz pcd pld pct lful ljn p1 p2 p3 n x5 false x7 (x8 + 1) askd answ)
    else (
    if (rsg x8.toNatClampNeg) = 124 then (
    if (bI x5) = 0 then (
    k_Or_ruleHolds_17 done tup tdn rlen rsg psz pcd pld pct lful ljn p1 p2 p3 n x5 false x7 (x8 + 1) askd answ)
    else (
    k_Or_ruleHolds_91 done tup tdn rlen rsg psz pcd pld pct lful ljn p1 p2 p3 (k_Or_ruleHolds_17 done tup tdn rlen rsg psz pcd pld pct lful ljn p1 p2 p3 n)  x5 x6 x7 x8 (rsg x8.toNatClampNeg) askd answ))
    else (
    k_Or_ruleHolds_91 done tup tdn rlen rsg psz pcd pld pct lful ljn p1 p2 p3 (k_Or_ruleHolds_17 done tup tdn rlen rsg psz pcd pld pct lful ljn p1 p2 p3 n)  x5 x6 x7 x8 (rsg x8.toNatClampNeg) askd answ)))
    else (
    k_Or_ruleHolds_91 done tup tdn rlen rsg psz pcd pld pct lful ljn p1 p2 p3 (k_Or_ruleHolds_17 done tup tdn rlen rsg psz pcd pld pct lful ljn p1 p2 p3 n)  x5 x6 x7 x8 (rsg x8.toNatClampNeg) askd answ))))))) := rfl
theorem k_Or_ruleHolds_17_z (done : Int32) (tup : Int32) (tdn : Int32) (rlen : Int32) (rsg : Nat → Int32) (psz : Int32) (pcd : Nat → Int32) (pld : Nat → Int32) (pct : Nat → Int64) (lful : Bool) (ljn : Nat → Int32) (p1 : Int32) (p2 : Int32) (p3 : Int64) (x5 : Bool) (x6 : Bool) (x7 : Int32) (x8 : Int32) (askd : Int32) (answ : Nat → Int32) : k_Or_ruleHolds_17 done tup tdn rlen rsg psz pcd pld pct lful ljn p1 p2 p3 0 x5 x6 x7 x8 askd answ = none := rfl
def m_Or_ruleHolds (p1 : Int32) (p2 : Int32) (p3 : Int64) (done : Int32) (tup : Int32) (tdn : Int32) (rlen : Int32) (rsg : Nat → Int32) (psz : Int32) (pcd : Nat → Int32) (pld : Nat → Int32) (pct : Nat → Int64) (lful : Bool) (ljn : Nat → Int32) (askd : Int32) (answ : Nat → Int32) : Option (Bool × Int32 × (Nat → Int32)) :=
    k_Or_ruleHolds_17 done tup tdn rlen rsg psz pcd pld pct lful ljn p1 p2 p3 2000 false false 0 p1 0 answ
def m_Or_sign (p1 : Int32) (tlen : Int32) (tsg : Nat → Int32) : Option (Bool × Int32 × (Nat → Int32)) :=
    if p1 < 33 then (
    some (false, tlen, tsg))
    else (
    if 126 < p1 then (
    some (false, tlen, tsg))
    else (
    if tlen < 300 then (
    bd2 (m_Text_add (((p1).toUInt32 % 65536).toInt32) tlen tsg) (fun tlen_33 tsg_33 =>
    some (true, tlen_33, tsg_33)))
    else (
    some (false, tlen, tsg))))
def m_Or_read  (tsg : Nat → Int32) (tlen : Int32) (tpl : Int32) (rlen : Int32) (rsz : Int32) (rsg : Nat → Int32) : Option (Int32 × Int32 × Int32 × Int32 × Int32 × (Nat → Int32)) :=
    bd2 (m_Text_rowsOrWrongPlace tlen tsg tpl) (fun r_4 tpl_4 =>
    if r_4 ≤ 0 then (
    some (r_4, 0, tpl_4, rlen, rsz, rsg))
    else (
    bd3 (m_Rows_replace tlen r_4 tsg rlen rsz rsg) (fun rlen_31 rsz_31 rsg_31 =>
    some (r_4, 0, tpl_4, rlen_31, rsz_31, rsg_31))))
def m_Or_clear  (done : Int32) (psz : Int32) : Option (Int32 × Int32 × Int32) :=
    bd2 (m_Parts_forget psz) (fun r_9 psz_9 =>
    some (r_9, 0, psz_9))
def m_Or_process (p1 : Int32) (done : Int32) : Option (Bool × Int32) :=
    bd1 (m_Or_isProcess p1) (fun r_1 =>
    if (bI r_1) = 0 then (
    some (false, done))
    else (
    bd1 (m_Or_hasBit done p1) (fun r_12 =>
    if (bI r_12) = 0 then (
    some (true, done ||| (1 <<< (p1 &&& 31))))
    else (
    some (false, done)))))
def m_Or_bar (p1 : Int32) (p2 : Bool) (brd : Int32) : Option (Bool × Int32) :=
    bd1 (m_Or_isProcess p1) (fun r_1 =>
    if (bI r_1) = 0 then (
    some (false, brd))
    else (
    bd1 (m_Or_hasBit brd p1) (fun r_12 =>
    if (bI r_12) = (bI p2) then (
    some (false, brd))
    else (
    some (true, brd ^^^ (1 <<< (p1 &&& 31)))))))
def m_Or_full (p1 : Bool) (lful : Bool) : Option (Bool × Bool) :=
    if (bI lful) = (bI p1) then (
    some (false, lful))
    else (
    some (true, p1))
def m_Or_tolerance (p1 : Int32) (p2 : Int32) (tup : Int32) (tdn : Int32) : Option (Bool × Int32 × Int32) :=
    if p2 < 1 then (
    some (false, tup, tdn))
    else (
    if 1000 < p2 then (
    some (false, tup, tdn))
    else (
    if p1 < 0 then (
    some (false, tup, tdn))
    else (
    if p1 ≤ p2 then (
    some (true, p1, p2))
    else (
    some (false, tup, tdn)))))
def m_Or_why (p1 : Int32) (askd : Int32) (answ : Nat → Int32) : Option Int32 :=
    if p1 < 0 then (
    some ((-1)))
    else (
    if askd ≤ p1 then (
    some ((-1)))
    else (
    ixg p1 149 (
    some (answ p1.toNatClampNeg))))
def m_Or_count (p1 : Int32) (done : Int32) (askd : Int32) (tlen : Int32) (rsz : Int32) (psz : Int32) (pld : Nat → Int32) (lpr : Int32) (lful : Bool) (ljn : Nat → Int32) (fsz : Int32) : Option Int32 :=
    if p1 = 0 then (
    some (tlen))
    else if p1 = 1 then (
    some (rsz))
    else if p1 = 2 then (
    some (psz))
    else if p1 = 3 then (
    bd1 (m_Lands_ownLands lful ljn) (fun r_80 =>
    bd1 (m_Parts_foreignParts r_80 psz pld) (fun r_83 =>
    some (r_83))))
    else if p1 = 4 then (
    some (done))
    else if p1 = 5 then (
    some (lpr))
    else if p1 = 6 then (
    some (fsz))
    else if p1 = 7 then (
    some (askd))
    else (
    some ((-1)))
def m_Or_part (p1 : Int32) (p2 : Int32) (p3 : Int64) (psz : Int32) (pcd : Nat → Int32) (pld : Nat → Int32) (pct : Nat → Int64) : Option (Nat ⊕ (Int32 × Int32 × (Nat → Int32) × (Nat → Int32) × (Nat → Int64))) :=
    bd1 (m_Or_isCode p1) (fun r_1 =>
    if (bI r_1) = 0 then (
    some (.inl 0))
    else (
    bd1 (m_Or_isLand p2) (fun r_8 =>
    if (bI r_8) = 0 then (
    some (.inl 0))
    else (
    bd1 (m_Or_isCents p3) (fun r_15 =>
    if (bI r_15) = 0 then (
    some (.inl 0))
    else (
    if psz < 12 then (
    bd5 (m_Parts_add p1 p2 p3 psz pcd pld pct) (fun r_60 psz_60 pcd_60 pld_60 pct_60 =>
    some (.inr (r_60, psz_60, pcd_60, pld_60, pct_60))))
    else (
    some (.inl 1))))))))
def m_Or_join (p1 : Int32) (p2 : Int32) (lpr : Int32) (ljn : Nat → Int32) : Option (Nat ⊕ (Int32 × Int32 × (Nat → Int32))) :=
    bd1 (m_Or_isLand p1) (fun r_1 =>
    if (bI r_1) = 0 then (
    some (.inl 0))
    else (
    bd1 (m_Or_isLand p2) (fun r_8 =>
    if (bI r_8) = 0 then (
    some (.inl 0))
    else (
    if p1 = p2 then (
    some (.inl 0))
    else (
    bd3 (m_Lands_addPair p1 p2 lpr ljn) (fun r_35 lpr_35 ljn_35 =>
    if (bI r_35) = 0 then (
    some (.inr (0, lpr_35, ljn_35)))
    else (
    some (.inr (1, lpr_35, ljn_35)))))))))
def m_Or_verdict (p1 : Int32) (p2 : Int64) (done : Int32) (brd : Int32) (tup : Int32) (tdn : Int32) (rlen : Int32) (rsg : Nat → Int32) (psz : Int32) (pcd : Nat → Int32) (pld : Nat → Int32) (pct : Nat → Int64) (lful : Bool) (ljn : Nat → Int32) (askd : Int32) (answ : Nat → Int32) : Option (Nat ⊕ (Int32 × Int32 × (Nat → Int32))) :=
    bd1 (m_Or_isCode p1) (fun r_1 =>
    if (bI r_1) = 0 then (
    some (.inl 0))
    else (
    bd1 (m_Or_isCents p2) (fun r_8 =>
    if (bI r_8) = 0 then (
    some (.inl 0))
    else (
    bd1 (m_Rows_startFor p1 rlen rsg) (fun r_29 =>
    if r_29 = (-1) then (
    some (.inr (3, askd, answ)))
    else (
    if done = 0 then (
    bd3 (m_Or_ruleHolds r_29 p1 p2 done tup tdn rlen rsg psz pcd pld pct lful ljn askd answ) (fun r_70 askd_70 answ_70 =>
    if (bI r_70) = 0 then (
    some (.inr (0, askd_70, answ_70)))
    else (
    some (.inr (1, askd_70, answ_70)))))
    else (
    if (done &&& (brd ^^^ (-1))) = 0 then (
    some (.inr (2, askd, answ)))
    else (
    bd3 (m_Or_ruleHolds r_29 p1 p2 done tup tdn rlen rsg psz pcd pld pct lful ljn askd answ) (fun r_70 askd_70 answ_70 =>
    if (bI r_70) = 0 then (
    some (.inr (0, askd_70, answ_70)))
    else (
    some (.inr (1, askd_70, answ_70))))))))))))
def m_Or_share (p1 : Int64) (p2 : Int32) (psz : Int32) (pld : Nat → Int32) (pct : Nat → Int64) (lful : Bool) (ljn : Nat → Int32) : Option (Nat ⊕ Int64) :=
    bd1 (m_Or_isCents p1) (fun r_1 =>
    if (bI r_1) = 0 then (
    some (.inl 0))
    else (
    if p2 < 0 then (
    some (.inl 0))
    else (
    if p2 ≤ 1 then (
    if (lg_cmp p1 0) = 0 then (
    some (.inl 2))
    else (
    bd1 (m_Lands_ownLands lful ljn) (fun r_50 =>
    bd1 (m_Parts_foreignCents r_50 psz pld pct) (fun r_53 =>
    bd1 (m_Or_greatestDivisor r_53 p1) (fun r_62 =>
    if p2 = 0 then (
    nzgJ (if r_62 < 1 then 1 else r_62) (
    some (.inr (r_53 / (if r_62 < 1 then 1 else r_62)))))
    else (
    nzgJ (if r_62 < 1 then 1 else r_62) (
    some (.inr (p1 / (if r_62 < 1 then 1 else r_62))))))))))
    else (
    some (.inl 0)))))
def m_Or_proof (p1 : Int32) (p2 : Int32) (p3 : Int32) (fsz : Int32) (fkd : Nat → Int32) (ffr : Nat → Int32) (fto : Nat → Int32) : Option (Nat ⊕ (Int32 × Int32 × (Nat → Int32) × (Nat → Int32) × (Nat → Int32))) :=
    if p1 < 0 then (
    some (.inl 0))
    else (
    if 1 < p1 then (
    some (.inl 0))
    else (
    bd1 (m_Or_isDay p2) (fun r_10 =>
    if (bI r_10) = 0 then (
    some (.inl 0))
    else (
    bd1 (m_Or_isDay p3) (fun r_17 =>
    if (bI r_17) = 0 then (
    some (.inl 0))
    else (
    if p2 ≤ p3 then (
    if fsz < 20 then (
    bd5 (m_Proofs_add p1 p2 p3 fsz fkd ffr fto) (fun r_67 fsz_67 fkd_67 ffr_67 fto_67 =>
    some (.inr (r_67, fsz_67, fkd_67, ffr_67, fto_67))))
    else (
    some (.inl 1)))
    else (
    some (.inl 0))))))))
def m_Or_good (p1 : Int32) (p2 : Int64) (p3 : Int32) (fsz : Int32) (fkd : Nat → Int32) (ffr : Nat → Int32) (fto : Nat → Int32) : Option (Nat ⊕ Bool) :=
    if p1 < 0 then (
    some (.inl 0))
    else (
    if fsz ≤ p1 then (
    some (.inl 0))
    else (
    bd1 (m_Or_isCents p2) (fun r_16 =>
    if (bI r_16) = 0 then (
    some (.inl 0))
    else (
    bd1 (m_Or_isDay p3) (fun r_24 =>
    if (bI r_24) = 0 then (
    some (.inl 0))
    else (
    bd1 (m_Proofs_isGood p1 p2 p3 fkd ffr fto) (fun r_48 =>
    some (.inr (r_48)))))))))
def m_Or_own (p1 : Int32) (lful : Bool) (ljn : Nat → Int32) : Option (Nat ⊕ Bool) :=
    bd1 (m_Or_isLand p1) (fun r_1 =>
    if (bI r_1) = 0 then (
    some (.inl 0))
    else (
    bd1 (m_Lands_ownLands lful ljn) (fun r_21 =>
    bd1 (m_Or_hasBit r_21 p1) (fun r_25 =>
    some (.inr (r_25))))))
def m_Md_in (p1 : Int64) (p2 : Int64) (p3 : Int64)  : Option Bool :=
    if (lg_cmp p1 p2) < 0 then (
    some (false))
    else (
    if 0 < (lg_cmp p1 p3) then (
    some (false))
    else (
    some (true)))
def m_Md_isDigit (p1 : Int32)  : Option Bool :=
    if p1 < 48 then (
    some (false))
    else (
    if 57 < p1 then (
    some (false))
    else (
    some (true)))
def k_Md_behind_30  (p1 : Int32) (p2 : Int32)  : Option Int32 :=
    if p1 = 59 then (
    if p2 = 0 then (
    some (0))
    else (
    some ((-1))))
    else (
    some ((-1)))
def m_Md_behind (p1 : Int32) (p2 : Int32)  : Option Int32 :=
    if p1 = 38 then (
    some (2))
    else (
    if p1 = 124 then (
    some (2))
    else (
    if p1 = 41 then (
    if p2 ≤ 0 then (
    k_Md_behind_30 p1 p2  )
    else (
    some (3)))
    else (
    k_Md_behind_30 p1 p2  )))
def m_Md_ahead (p1 : Int32) (p2 : Int32)  : Option Int32 :=
    if p1 = 87 then (
    some (3))
    else (
    if p1 = 67 then (
    some (3))
    else (
    if p1 = 72 then (
    some (3))
    else (
    if p1 = 83 then (
    some (3))
    else (
    if p1 = 86 then (
    some (4))
    else (
    if p1 = 80 then (
    some (5))
    else (
    if p1 = 40 then (
    if 8 ≤ p2 then (
    some ((-1)))
    else (
    some (2)))
    else (
    some ((-1)))))))))
def m_Md_isDay (p1 : Int32)  : Option Bool :=
    bd1 (m_Md_in ((p1).toInt64) 0 100000) (fun r_6 =>
    some (r_6))
def m_Md_thrown  (e_thrown : Int32) : Option Int32 :=
    some (e_thrown)
def m_Md_refuse (p1 : Int32) (e_thrown : Int32) : Option (Int32 × Int32) :=
    some (0, p1)
def m_Md_sign (p1 : Int32) (e_thrown : Int32) (e_signs : Int32) (e_text : Nat → Int32) : Option (Bool × Int32 × Int32 × (Nat → Int32)) :=
    bd1 (m_Md_in ((p1).toInt64) 33 126) (fun r_13 =>
    if (bI r_13) = 0 then (
    some (false, 0, e_signs, e_text))
    else (
    if e_signs = 300 then (
    some (false, 0, e_signs, e_text))
    else (
    ixg e_signs 300 (
    some (true, 0, e_signs + 1, upd e_text e_signs.toNatClampNeg p1)))))
def k_Md_read_304 (e_text : Nat → Int32)  (Ko23 : Int32 → Int32 → Int32 → Int32 → Int32 → Int32 → Int32 → Int32 → Int32 → Int32 → (Nat → Int32) → (Nat → Int32) → (Nat → Int32) → Option (Int32 × Int32 × Int32 × Int32 × (Nat → Int32) × (Nat → Int32) × (Nat → Int32))) (x1 : Int32) (x2 : Int32) (x3 : Int32) (x4 : Int32) (x6 : Int32) (x7 : Int32) (x10 : Int32) (s0 : Int32) (s1 : Bool) (e_thrown : Int32) (e_signs : Int32) (e_rows : Int32) (e_read : Nat → Int32) (e_begins : Nat → Int32) (e_tried : Nat → Int32) : Option (Int32 × Int32 × Int32 × Int32 × (Nat → Int32) × (Nat → Int32) × (Nat → Int32)) :=
    if 0 ≤ x10 then (
    Ko23 x10 x2 x3 x4 (s0 + (bI s1)) x6 (x7 + 1) e_thrown e_signs e_rows e_read e_begins e_tried)
    else (
    Ko23 x1 x2 x3 x4 (s0 + (bI s1)) x6 (x7 + 1) e_thrown e_signs e_rows e_read e_begins e_tried)
def k_Md_read_290 (e_text : Nat → Int32)  (Ko23 : Int32 → Int32 → Int32 → Int32 → Int32 → Int32 → Int32 → Int32 → Int32 → Int32 → (Nat → Int32) → (Nat → Int32) → (Nat → Int32) → Option (Int32 × Int32 × Int32 × Int32 × (Nat → Int32) × (Nat → Int32) × (Nat → Int32))) (x1 : Int32) (x3 : Int32) (x4 : Int32) (x5 : Int32) (x6 : Int32) (x7 : Int32) (x10 : Int32) (s0 : Int32) (s1 : Int32) (e_thrown : Int32) (e_signs : Int32) (e_rows : Int32) (e_read : Nat → Int32) (e_begins : Nat → Int32) (e_tried : Nat → Int32) : Option (Int32 × Int32 × Int32 × Int32 × (Nat → Int32) × (Nat → Int32) × (Nat → Int32)) :=
    if x10 = 0 then (
    k_Md_read_304 e_text Ko23  x1 (s0 + s1) x3 x4 x6 x7 x10 x5 true e_thrown e_signs e_rows e_read e_begins e_tried)
    else (
    k_Md_read_304 e_text Ko23  x1 (s0 + s1) x3 x4 x6 x7 x10 x5 false e_thrown e_signs e_rows e_read e_begins e_tried)
def k_Md_read_264 (e_text : Nat → Int32)  (Ko23 : Int32 → Int32 → Int32 → Int32 → Int32 → Int32 → Int32 → Int32 → Int32 → Int32 → (Nat → Int32) → (Nat → Int32) → (Nat → Int32) → Option (Int32 × Int32 × Int32 × Int32 × (Nat → Int32) × (Nat → Int32) × (Nat → Int32))) (x1 : Int32) (x2 : Int32) (x3 : Int32) (x4 : Int32) (x5 : Int32) (x7 : Int32) (x8 : Int32) (x10 : Int32) (s0 : Int32) (e_thrown : Int32) (e_signs : Int32) (e_rows : Int32) (e_read : Nat → Int32) (e_begins : Nat → Int32) (e_tried : Nat → Int32) : Option (Int32 × Int32 × Int32 × Int32 × (Nat → Int32) × (Nat → Int32) × (Nat → Int32)) :=
    if x8 = 40 then (
    k_Md_read_290 e_text Ko23  x1 x3 x4 x5 s0 x7 x10 x2 1 e_thrown e_signs e_rows e_read e_begins e_tried)
    else (
    if x8 = 41 then (
    k_Md_read_290 e_text Ko23  x1 x3 x4 x5 s0 x7 x10 x2 (-1) e_thrown e_signs e_rows e_read e_begins e_tried)
    else (
    k_Md_read_290 e_text Ko23  x1 x3 x4 x5 s0 x7 x10 x2 0 e_thrown e_signs e_rows e_read e_begins e_tried))
def k_Md_read_252 (e_text : Nat → Int32)  (Ko23 : Int32 → Int32 → Int32 → Int32 → Int32 → Int32 → Int32 → Int32 → Int32 → Int32 → (Nat → Int32) → (Nat → Int32) → (Nat → Int32) → Option (Int32 × Int32 × Int32 × Int32 × (Nat → Int32) × (Nat → Int32) × (Nat → Int32))) (x1 : Int32) (x2 : Int32) (x3 : Int32) (x4 : Int32) (x5 : Int32) (x6 : Int32) (x7 : Int32) (x8 : Int32) (x10 : Int32) (e_thrown : Int32) (e_signs : Int32) (e_rows : Int32) (e_read : Nat → Int32) (e_begins : Nat → Int32) (e_tried : Nat → Int32) : Option (Int32 × Int32 × Int32 × Int32 × (Nat → Int32) × (Nat → Int32) × (Nat → Int32)) :=
    if 0 ≤ x10 then (
    k_Md_read_264 e_text Ko23  x1 x2 x3 x4 x5 x7 x8 x10 x6 e_thrown e_signs e_rows e_read e_begins e_tried)
    else (
    k_Md_read_264 e_text Ko23  x1 x2 x3 x4 x5 x7 x8 x10 x7 e_thrown e_signs e_rows e_read e_begins e_tried)
def k_Md_read_98 (e_text : Nat → Int32)  (Ko23 : Int32 → Int32 → Int32 → Int32 → Int32 → Int32 → Int32 → Int32 → Int32 → Int32 → (Nat → Int32) → (Nat → Int32) → (Nat → Int32) → Option (Int32 × Int32 × Int32 × Int32 × (Nat → Int32) × (Nat → Int32) × (Nat → Int32))) (x1 : Int32) (x2 : Int32) (x4 : Int32) (x5 : Int32) (x6 : Int32) (x7 : Int32) (x8 : Int32) (s0 : Int32) (e_thrown : Int32) (e_signs : Int32) (e_rows : Int32) (e_read : Nat → Int32) (e_begins : Nat → Int32) (e_tried : Nat → Int32) : Option (Int32 × Int32 × Int32 × Int32 × (Nat → Int32) × (Nat → Int32) × (Nat → Int32)) :=
    k_Md_read_252 e_text Ko23  x1 x2 1 x4 x5 x6 x7 x8 s0 e_thrown e_signs e_rows e_read e_begins e_tried
def k_Md_read_97 (e_text : Nat → Int32)  (Ko23 : Int32 → Int32 → Int32 → Int32 → Int32 → Int32 → Int32 → Int32 → Int32 → Int32 → (Nat → Int32) → (Nat → Int32) → (Nat → Int32) → Option (Int32 × Int32 × Int32 × Int32 × (Nat → Int32) × (Nat → Int32) × (Nat → Int32))) (x1 : Int32) (x2 : Int32) (x4 : Int32) (x5 : Int32) (x6 : Int32) (x7 : Int32) (x8 : Int32) (e_thrown : Int32) (e_signs : Int32) (e_rows : Int32) (e_read : Nat → Int32) (e_begins : Nat → Int32) (e_tried : Nat → Int32) : Option (Int32 × Int32 × Int32 × Int32 × (Nat → Int32) × (Nat → Int32) × (Nat → Int32)) :=
    k_Md_read_98 e_text Ko23  x1 x2 x4 x5 x6 x7 x8 (-1) e_thrown e_signs e_rows e_read e_begins e_tried
def k_Md_read_137 (e_text : Nat → Int32)  (Ko23 : Int32 → Int32 → Int32 → Int32 → Int32 → Int32 → Int32 → Int32 → Int32 → Int32 → (Nat → Int32) → (Nat → Int32) → (Nat → Int32) → Option (Int32 × Int32 × Int32 × Int32 × (Nat → Int32) × (Nat → Int32) × (Nat → Int32))) (x1 : Int32) (x2 : Int32) (x3 : Int32) (x4 : Int32) (x5 : Int32) (x6 : Int32) (x7 : Int32) (x8 : Int32) (s0 : Int32) (e_thrown : Int32) (e_signs : Int32) (e_rows : Int32) (e_read : Nat → Int32) (e_begins : Nat → Int32) (e_tried : Nat → Int32) : Option (Int32 × Int32 × Int32 × Int32 × (Nat → Int32) × (Nat → Int32) × (Nat → Int32)) :=
    k_Md_read_252 e_text Ko23  x1 x2 (x3 + 1) x4 x5 x6 x7 x8 s0 e_thrown e_signs e_rows e_read e_begins e_tried
def k_Md_read_125 (e_text : Nat → Int32)  (Ko23 : Int32 → Int32 → Int32 → Int32 → Int32 → Int32 → Int32 → Int32 → Int32 → Int32 → (Nat → Int32) → (Nat → Int32) → (Nat → Int32) → Option (Int32 × Int32 × Int32 × Int32 × (Nat → Int32) × (Nat → Int32) × (Nat → Int32))) (x1 : Int32) (x2 : Int32) (x3 : Int32) (x4 : Int32) (x5 : Int32) (x6 : Int32) (x7 : Int32) (x8 : Int32) (e_thrown : Int32) (e_signs : Int32) (e_rows : Int32) (e_read : Nat → Int32) (e_begins : Nat → Int32) (e_tried : Nat → Int32) : Option (Int32 × Int32 × Int32 × Int32 × (Nat → Int32) × (Nat → Int32) × (Nat → Int32)) :=
    if x8 = 58 then (
    k_Md_read_137 e_text Ko23  x1 x2 x3 x4 x5 x6 x7 x8 2 e_thrown e_signs e_rows e_read e_begins e_tried)
    else (
    k_Md_read_137 e_text Ko23  x1 x2 x3 x4 x5 x6 x7 x8 (-1) e_thrown e_signs e_rows e_read e_begins e_tried)
def k_Md_read_241 (e_text : Nat → Int32)  (Ko23 : Int32 → Int32 → Int32 → Int32 → Int32 → Int32 → Int32 → Int32 → Int32 → Int32 → (Nat → Int32) → (Nat → Int32) → (Nat → Int32) → Option (Int32 × Int32 × Int32 × Int32 × (Nat → Int32) × (Nat → Int32) × (Nat → Int32))) (x1 : Int32) (x2 : Int32) (x3 : Int32) (x4 : Int32) (x5 : Int32) (x6 : Int32) (x7 : Int32) (x8 : Int32) (x10 : Int32) (s0 : Int32) (s1 : Int32) (e_thrown : Int32) (e_signs : Int32) (e_rows : Int32) (e_read : Nat → Int32) (e_begins : Nat → Int32) (e_tried : Nat → Int32) : Option (Int32 × Int32 × Int32 × Int32 × (Nat → Int32) × (Nat → Int32) × (Nat → Int32)) :=
    if s1 < s0 then (
    k_Md_read_252 e_text Ko23  x1 x2 x3 x4 x5 x6 x7 x8 x10 e_thrown e_signs e_rows e_read e_begins e_tried)
    else (
    bd1 (m_Md_behind x8 x2) (fun r_247 =>
    k_Md_read_252 e_text Ko23  x1 x2 x3 x4 x5 x6 x7 x8 r_247 e_thrown e_signs e_rows e_read e_begins e_tried))
def k_Md_read_223 (e_text : Nat → Int32)  (Ko23 : Int32 → Int32 → Int32 → Int32 → Int32 → Int32 → Int32 → Int32 → Int32 → Int32 → (Nat → Int32) → (Nat → Int32) → (Nat → Int32) → Option (Int32 × Int32 × Int32 × Int32 × (Nat → Int32) × (Nat → Int32) × (Nat → Int32))) (x1 : Int32) (x2 : Int32) (x3 : Int32) (x4 : Int32) (x5 : Int32) (x6 : Int32) (x7 : Int32) (x8 : Int32) (x10 : Int32) (e_thrown : Int32) (e_signs : Int32) (e_rows : Int32) (e_read : Nat → Int32) (e_begins : Nat → Int32) (e_tried : Nat → Int32) : Option (Int32 × Int32 × Int32 × Int32 × (Nat → Int32) × (Nat → Int32) × (Nat → Int32)) :=
    if x3 ≤ 0 then (
    k_Md_read_252 e_text Ko23  x1 x2 x3 x4 x5 x6 x7 x8 x10 e_thrown e_signs e_rows e_read e_begins e_tried)
    else (
    if x1 = 4 then (
    k_Md_read_241 e_text Ko23  x1 x2 x3 x4 x5 x6 x7 x8 x10 x4 100 e_thrown e_signs e_rows e_read e_begins e_tried)
    else (
    k_Md_read_241 e_text Ko23  x1 x2 x3 x4 x5 x6 x7 x8 x10 x4 15 e_thrown e_signs e_rows e_read e_begins e_tried))
def k_Md_read_198 (e_text : Nat → Int32)  (Ko23 : Int32 → Int32 → Int32 → Int32 → Int32 → Int32 → Int32 → Int32 → Int32 → Int32 → (Nat → Int32) → (Nat → Int32) → (Nat → Int32) → Option (Int32 × Int32 × Int32 × Int32 × (Nat → Int32) × (Nat → Int32) × (Nat → Int32))) (x1 : Int32) (x2 : Int32) (x3 : Int32) (x4 : Int32) (x5 : Int32) (x6 : Int32) (x7 : Int32) (x8 : Int32) (x10 : Int32) (s0 : Int32) (s1 : Int32) (e_thrown : Int32) (e_signs : Int32) (e_rows : Int32) (e_read : Nat → Int32) (e_begins : Nat → Int32) (e_tried : Nat → Int32) : Option (Int32 × Int32 × Int32 × Int32 × (Nat → Int32) × (Nat → Int32) × (Nat → Int32)) :=
    if s1 ≤ s0 then (
    k_Md_read_223 e_text Ko23  x1 x2 x3 x4 x5 x6 x7 x8 x10 e_thrown e_signs e_rows e_read e_begins e_tried)
    else (
    k_Md_read_252 e_text Ko23  x1 x2 (x3 + 1) (((10 * x4) + x8) - 48) x5 x6 x7 x8 x1 e_thrown e_signs e_rows e_read e_begins e_tried)
def k_Md_read_65 (e_text : Nat → Int32)  (Ko23 : Int32 → Int32 → Int32 → Int32 → Int32 → Int32 → Int32 → Int32 → Int32 → Int32 → (Nat → Int32) → (Nat → Int32) → (Nat → Int32) → Option (Int32 × Int32 × Int32 × Int32 × (Nat → Int32) × (Nat → Int32) × (Nat → Int32))) (x1 : Int32) (x2 : Int32) (x3 : Int32) (x4 : Int32) (x5 : Int32) (x6 : Int32) (x7 : Int32) (x8 : Int32) (x9 : Bool) (x10 : Int32) (s0 : Bool) (e_thrown : Int32) (e_signs : Int32) (e_rows : Int32) (e_read : Nat → Int32) (e_begins : Nat → Int32) (e_tried : Nat → Int32) : Option (Int32 × Int32 × Int32 × Int32 × (Nat → Int32) × (Nat → Int32) × (Nat → Int32)) :=
    if (bI s0) = 0 then (
    if x1 = 1 then (
    if (bI x9) = 0 then (
    k_Md_read_125 e_text Ko23  x1 x2 x3 x4 x5 x6 x7 x8 e_thrown e_signs e_rows e_read e_begins e_tried)
    else (
    if 6 ≤ x3 then (
    k_Md_read_125 e_text Ko23  x1 x2 x3 x4 x5 x6 x7 x8 e_thrown e_signs e_rows e_read e_begins e_tried)
    else (
    k_Md_read_137 e_text Ko23  x1 x2 x3 x4 x5 x6 x7 x8 1 e_thrown e_signs e_rows e_read e_begins e_tried)))
    else (
    if x1 = 2 then (
    bd1 (m_Md_ahead x8 x2) (fun r_153 =>
    k_Md_read_252 e_text Ko23  x1 x2 0 0 x5 x6 x7 x8 r_153 e_thrown e_signs e_rows e_read e_begins e_tried))
    else (
    if x1 = 3 then (
    bd1 (m_Md_behind x8 x2) (fun r_174 =>
    k_Md_read_252 e_text Ko23  x1 x2 x3 x4 x5 x6 x7 x8 r_174 e_thrown e_signs e_rows e_read e_begins e_tried))
    else (
    if (bI x9) = 0 then (
    k_Md_read_223 e_text Ko23  x1 x2 x3 x4 x5 x6 x7 x8 x10 e_thrown e_signs e_rows e_read e_begins e_tried)
    else (
    if x1 = 4 then (
    k_Md_read_198 e_text Ko23  x1 x2 x3 x4 x5 x6 x7 x8 x10 x3 3 e_thrown e_signs e_rows e_read e_begins e_tried)
    else (
    k_Md_read_198 e_text Ko23  x1 x2 x3 x4 x5 x6 x7 x8 x10 x3 2 e_thrown e_signs e_rows e_read e_begins e_tried))))))
    else (
    ixg x5 21 (
    if (bI x9) = 0 then (
    k_Md_read_97 e_text Ko23  x1 x2 x4 x5 x6 x7 x8 e_thrown e_signs e_rows e_read e_begins (upd e_tried x5.toNatClampNeg x7))
    else (
    if 20 ≤ x5 then (
    k_Md_read_97 e_text Ko23  x1 x2 x4 x5 x6 x7 x8 e_thrown e_signs e_rows e_read e_begins (upd e_tried x5.toNatClampNeg x7))
    else (
    k_Md_read_98 e_text Ko23  x1 x2 x4 x5 x6 x7 x8 1 e_thrown e_signs e_rows e_read e_begins (upd e_tried x5.toNatClampNeg x7)))))
def k_Md_read_434 (e_text : Nat → Int32)  (x5 : Int32) (x6 : Int32) (e_thrown : Int32) (e_signs : Int32) (e_rows : Int32) (e_read : Nat → Int32) (e_begins : Nat → Int32) (e_tried : Nat → Int32) : Option (Int32 × Int32 × Int32 × Int32 × (Nat → Int32) × (Nat → Int32) × (Nat → Int32)) :=
    if 0 ≤ x6 then (
    some ((-1) - x6, e_thrown, 0, e_rows, e_read, e_begins, e_tried))
    else (
    some (x5, e_thrown, 0, e_rows, e_read, e_begins, e_tried))
def k_Md_read_407 (e_text : Nat → Int32)  : Nat → Int32 → Int32 → Int32 → Int32 → Int32 → Int32 → (Nat → Int32) → (Nat → Int32) → (Nat → Int32) → Option (Int32 × Int32 × Int32 × Int32 × (Nat → Int32) × (Nat → Int32) × (Nat → Int32))
  | 0, _, _, _, _, _, _, _, _, _ => none
  | n + 1, x5, x6, x7, e_thrown, e_signs, e_rows, e_read, e_begins, e_tried =>
    if x5 < x7 then (
    k_Md_read_434 e_text  x5 x6 e_thrown e_signs e_rows e_read e_begins e_tried)
    else (
    ixg x7 21 (
    ixg x7 21 (
    k_Md_read_407 e_text n x5 x6 (x7 + 1) e_thrown e_signs e_rows e_read (upd e_begins x7.toNatClampNeg (e_tried x7.toNatClampNeg)) e_tried)))
theorem k_Md_read_407_s (e_text : Nat → Int32)  (n : Nat) (x5 : Int32) (x6 : Int32) (x7 : Int32) (e_thrown : Int32) (e_signs : Int32) (e_rows : Int32) (e_read : Nat → Int32) (e_begins : Nat → Int32) (e_tried : Nat → Int32) : k_Md_read_407 e_text (n + 1) x5 x6 x7 e_thrown e_signs e_rows e_read e_begins e_tried = (
    if x5 < x7 then (
    k_Md_read_434 e_text  x5 x6 e_thrown e_signs e_rows e_read e_begins e_tried)
    else (
    ixg x7 21 (
    ixg x7 21 (
    k_Md_read_407 e_text n x5 x6 (x7 + 1) e_thrown e_signs e_rows e_read (upd e_begins x7.toNatClampNeg (e_tried x7.toNatClampNeg)) e_tried)))) := rfl
theorem k_Md_read_407_z (e_text : Nat → Int32)  (x5 : Int32) (x6 : Int32) (x7 : Int32) (e_thrown : Int32) (e_signs : Int32) (e_rows : Int32) (e_read : Nat → Int32) (e_begins : Nat → Int32) (e_tried : Nat → Int32) : k_Md_read_407 e_text 0 x5 x6 x7 e_thrown e_signs e_rows e_read e_begins e_tried = none := rfl
def k_Md_read_364 (e_text : Nat → Int32)  : Nat → Int32 → Int32 → Int32 → Int32 → Int32 → Int32 → (Nat → Int32) → (Nat → Int32) → (Nat → Int32) → Option (Int32 × Int32 × Int32 × Int32 × (Nat → Int32) × (Nat → Int32) × (Nat → Int32))
  | 0, _, _, _, _, _, _, _, _, _ => none
  | n + 1, x5, x6, x7, e_thrown, e_signs, e_rows, e_read, e_begins, e_tried =>
    if e_signs ≤ x7 then (
    ixg x5 21 (
    k_Md_read_407 e_text 2000 x5 x6 0 e_thrown e_signs e_rows e_read e_begins (upd e_tried x5.toNatClampNeg e_signs)))
    else (
    ixg x7 300 (
    ixg x7 300 (
    k_Md_read_364 e_text n x5 x6 (x7 + 1) e_thrown e_signs e_rows (upd e_read x7.toNatClampNeg (e_text x7.toNatClampNeg)) e_begins e_tried)))
theorem k_Md_read_364_s (e_text : Nat → Int32)  (n : Nat) (x5 : Int32) (x6 : Int32) (x7 : Int32) (e_thrown : Int32) (e_signs : Int32) (e_rows : Int32) (e_read : Nat → Int32) (e_begins : Nat → Int32) (e_tried : Nat → Int32) : k_Md_read_364 e_text (n + 1) x5 x6 x7 e_thrown e_signs e_rows e_read e_begins e_tried = (
    if e_signs ≤ x7 then (
    ixg x5 21 (
    k_Md_read_407 e_text 2000 x5 x6 0 e_thrown e_signs e_rows e_read e_begins (upd e_tried x5.toNatClampNeg e_signs)))
    else (
    ixg x7 300 (
    ixg x7 300 (
    k_Md_read_364 e_text n x5 x6 (x7 + 1) e_thrown e_signs e_rows (upd e_read x7.toNatClampNeg (e_text x7.toNatClampNeg)) e_begins e_tried)))) := rfl
theorem k_Md_read_364_z (e_text : Nat → Int32)  (x5 : Int32) (x6 : Int32) (x7 : Int32) (e_thrown : Int32) (e_signs : Int32) (e_rows : Int32) (e_read : Nat → Int32) (e_begins : Nat → Int32) (e_tried : Nat → Int32) : k_Md_read_364 e_text 0 x5 x6 x7 e_thrown e_signs e_rows e_read e_begins e_tried = none := rfl
def k_Md_read_348 (e_text : Nat → Int32)  (x5 : Int32) (s0 : Int32) (e_thrown : Int32) (e_signs : Int32) (e_rows : Int32) (e_read : Nat → Int32) (e_begins : Nat → Int32) (e_tried : Nat → Int32) : Option (Int32 × Int32 × Int32 × Int32 × (Nat → Int32) × (Nat → Int32) × (Nat → Int32)) :=
    if 0 ≤ s0 then (
    k_Md_read_434 e_text  x5 s0 e_thrown e_signs e_rows e_read e_begins e_tried)
    else (
    k_Md_read_364 e_text 2000 x5 s0 0 e_thrown e_signs x5 e_read e_begins e_tried)
def k_Md_read_339 (e_text : Nat → Int32)  (x5 : Int32) (e_thrown : Int32) (e_signs : Int32) (e_rows : Int32) (e_read : Nat → Int32) (e_begins : Nat → Int32) (e_tried : Nat → Int32) : Option (Int32 × Int32 × Int32 × Int32 × (Nat → Int32) × (Nat → Int32) × (Nat → Int32)) :=
    k_Md_read_348 e_text  x5 e_signs e_thrown e_signs e_rows e_read e_begins e_tried
def k_Md_read_346 (e_text : Nat → Int32)  (x5 : Int32) (x6 : Int32) (e_thrown : Int32) (e_signs : Int32) (e_rows : Int32) (e_read : Nat → Int32) (e_begins : Nat → Int32) (e_tried : Nat → Int32) : Option (Int32 × Int32 × Int32 × Int32 × (Nat → Int32) × (Nat → Int32) × (Nat → Int32)) :=
    k_Md_read_348 e_text  x5 x6 e_thrown e_signs e_rows e_read e_begins e_tried
def k_Md_read_325 (e_text : Nat → Int32)  (x1 : Int32) (x5 : Int32) (x6 : Int32) (e_thrown : Int32) (e_signs : Int32) (e_rows : Int32) (e_read : Nat → Int32) (e_begins : Nat → Int32) (e_tried : Nat → Int32) : Option (Int32 × Int32 × Int32 × Int32 × (Nat → Int32) × (Nat → Int32) × (Nat → Int32)) :=
    if 0 ≤ x6 then (
    k_Md_read_346 e_text  x5 x6 e_thrown e_signs e_rows e_read e_begins e_tried)
    else (
    if x1 = 0 then (
    if x5 = 0 then (
    k_Md_read_339 e_text  x5 e_thrown e_signs e_rows e_read e_begins e_tried)
    else (
    k_Md_read_346 e_text  x5 x6 e_thrown e_signs e_rows e_read e_begins e_tried))
    else (
    k_Md_read_339 e_text  x5 e_thrown e_signs e_rows e_read e_begins e_tried))
def k_Md_read_23 (e_text : Nat → Int32)  : Nat → Int32 → Int32 → Int32 → Int32 → Int32 → Int32 → Int32 → Int32 → Int32 → Int32 → (Nat → Int32) → (Nat → Int32) → (Nat → Int32) → Option (Int32 × Int32 × Int32 × Int32 × (Nat → Int32) × (Nat → Int32) × (Nat → Int32))
  | 0, _, _, _, _, _, _, _, _, _, _, _, _, _ => none
  | n + 1, x1, x2, x3, x4, x5, x6, x7, e_thrown, e_signs, e_rows, e_read, e_begins, e_tried =>
    if e_signs ≤ x7 then (
    k_Md_read_325 e_text  x1 x5 x6 e_thrown e_signs e_rows e_read e_begins e_tried)
    else (
    if 0 ≤ x6 then (
    k_Md_read_325 e_text  x1 x5 x6 e_thrown e_signs e_rows e_read e_begins e_tried)
    else (
    ixg x7 300 (
    bd1 (m_Md_isDigit (e_text x7.toNatClampNeg)) (fun r_48 =>
    if x1 = 0 then (
    k_Md_read_65 e_text (k_Md_read_23 e_text n)  x1 x2 x3 x4 x5 x6 x7 (e_text x7.toNatClampNeg) r_48 (-1) true e_thrown e_signs e_rows e_read e_begins e_tried)
    else (
    k_Md_read_65 e_text (k_Md_read_23 e_text n)  x1 x2 x3 x4 x5 x6 x7 (e_text x7.toNatClampNeg) r_48 (-1) false e_thrown e_signs e_rows e_read e_begins e_tried)))))
theorem k_Md_read_23_s (e_text : Nat → Int32)  (n : Nat) (x1 : Int32) (x2 : Int32) (x3 : Int32) (x4 : Int32) (x5 : Int32) (x6 : Int32) (x7 : Int32) (e_thrown : Int32) (e_signs : Int32) (e_rows : Int32) (e_read : Nat → Int32) (e_begins : Nat → Int32) (e_tried : Nat → Int32) : k_Md_read_23 e_text (n + 1) x1 x2 x3 x4 x5 x6 x7 e_thrown e_signs e_rows e_read e_begins e_tried = (
    if e_signs ≤ x7 then (
    k_Md_read_325 e_text  x1 x5 x6 e_thrown e_signs e_rows e_read e_begins e_tried)
    else (
    if 0 ≤ x6 then (
    k_Md_read_325 e_text  x1 x5 x6 e_thrown e_signs e_rows e_read e_begins e_tried)
    else (
    ixg x7 300 (
    bd1 (m_Md_isDigit (e_text x7.toNatClampNeg)) (fun r_48 =>
    if x1 = 0 then (
    k_Md_read_65 e_text (k_Md_read_23 e_text n)  x1 x2 x3 x4 x5 x6 x7 (e_text x7.toNatClampNeg) r_48 (-1) true e_thrown e_signs e_rows e_read e_begins e_tried)
    else (
    k_Md_read_65 e_text (k_Md_read_23 e_text n)  x1 x2 x3 x4 x5 x6 x7 (e_text x7.toNatClampNeg) r_48 (-1) false e_thrown e_signs e_rows e_read e_begins e_tried)))))) := rfl
theorem k_Md_read_23_z (e_text : Nat → Int32)  (x1 : Int32) (x2 : Int32) (x3 : Int32) (x4 : Int32) (x5 : Int32) (x6 : Int32) (x7 : Int32) (e_thrown : Int32) (e_signs : Int32) (e_rows : Int32) (e_read : Nat → Int32) (e_begins : Nat → Int32) (e_tried : Nat → Int32) : k_Md_read_23 e_text 0 x1 x2 x3 x4 x5 x6 x7 e_thrown e_signs e_rows e_read e_begins e_tried = none := rfl
def m_Md_read  (e_text : Nat → Int32) (e_thrown : Int32) (e_signs : Int32) (e_rows : Int32) (e_read : Nat → Int32) (e_begins : Nat → Int32) (e_tried : Nat → Int32) : Option (Int32 × Int32 × Int32 × Int32 × (Nat → Int32) × (Nat → Int32) × (Nat → Int32)) :=
    k_Md_read_23 e_text 2000 0 0 0 0 0 (-1) 0 0 e_signs e_rows e_read e_begins e_tried
def k_Md_begin_59 (e_read : Nat → Int32) (e_begins : Nat → Int32) (p1 : Int32) (p2 : Int32) (Ko17 : Int32 → Int32 → Bool → Int32 → Option Int32) (x3 : Int32) (x4 : Int32) (x6 : Int32) (s0 : Bool) : Option Int32 :=
    Ko17 (x3 + 1) (x4 / 10) s0 (x6 + 1)
def k_Md_begin_58 (e_read : Nat → Int32) (e_begins : Nat → Int32) (p1 : Int32) (p2 : Int32) (Ko17 : Int32 → Int32 → Bool → Int32 → Option Int32) (x3 : Int32) (x4 : Int32) (x6 : Int32) : Option Int32 :=
    k_Md_begin_59 e_read e_begins p1 p2 Ko17  x3 x4 x6 false
def k_Md_begin_17 (e_read : Nat → Int32) (e_begins : Nat → Int32) (p1 : Int32) (p2 : Int32) : Nat → Int32 → Int32 → Bool → Int32 → Option Int32
  | 0, _, _, _, _ => none
  | n + 1, x3, x4, x5, x6 =>
    ixg x6 300 (
    if (e_read x6.toNatClampNeg) = 58 then (
    if (bI x5) = 0 then (
    some (0))
    else (
    some (x3)))
    else (
    if (bI x5) = 0 then (
    k_Md_begin_58 e_read e_begins p1 p2 (k_Md_begin_17 e_read e_begins p1 p2 n)  x3 x4 x6)
    else (
    ixg x6 300 (
    nzgI x4 (
    if ((e_read x6.toNatClampNeg) - 48) = ((p2 / x4) - (p2 / x4) / 10 * 10) then (
    k_Md_begin_59 e_read e_begins p1 p2 (k_Md_begin_17 e_read e_begins p1 p2 n)  x3 x4 x6 true)
    else (
    k_Md_begin_58 e_read e_begins p1 p2 (k_Md_begin_17 e_read e_begins p1 p2 n)  x3 x4 x6))))))
theorem k_Md_begin_17_s (e_read : Nat → Int32) (e_begins : Nat → Int32) (p1 : Int32) (p2 : Int32) (n : Nat) (x3 : Int32) (x4 : Int32) (x5 : Bool) (x6 : Int32) : k_Md_begin_17 e_read e_begins p1 p2 (n + 1) x3 x4 x5 x6 = (
    ixg x6 300 (
    if (e_read x6.toNatClampNeg) = 58 then (
    if (bI x5) = 0 then (
    some (0))
    else (
    some (x3)))
    else (
    if (bI x5) = 0 then (
    k_Md_begin_58 e_read e_begins p1 p2 (k_Md_begin_17 e_read e_begins p1 p2 n)  x3 x4 x6)
    else (
    ixg x6 300 (
    nzgI x4 (
    if ((e_read x6.toNatClampNeg) - 48) = ((p2 / x4) - (p2 / x4) / 10 * 10) then (
    k_Md_begin_59 e_read e_begins p1 p2 (k_Md_begin_17 e_read e_begins p1 p2 n)  x3 x4 x6 true)
    else (
    k_Md_begin_58 e_read e_begins p1 p2 (k_Md_begin_17 e_read e_begins p1 p2 n)  x3 x4 x6))))))) := rfl
theorem k_Md_begin_17_z (e_read : Nat → Int32) (e_begins : Nat → Int32) (p1 : Int32) (p2 : Int32) (x3 : Int32) (x4 : Int32) (x5 : Bool) (x6 : Int32) : k_Md_begin_17 e_read e_begins p1 p2 0 x3 x4 x5 x6 = none := rfl
def m_Md_begin (p1 : Int32) (p2 : Int32) (e_read : Nat → Int32) (e_begins : Nat → Int32) : Option Int32 :=
    ixg p1 21 (
    k_Md_begin_17 e_read e_begins p1 p2 2000 0 100000 true (e_begins p1.toNatClampNeg))
def k_Md_rowOf_37 (e_rows : Int32) (e_read : Nat → Int32) (e_begins : Nat → Int32) (p1 : Int32) (Ko7 : Int32 → Int32 → Int32 → Option Int32) (x3 : Int32) (x4 : Int32) (x5 : Int32) (s0 : Int32) : Option Int32 :=
    if x5 < x3 then (
    Ko7 s0 x3 (x4 + 1))
    else (
    Ko7 s0 x5 (x4 + 1))
def k_Md_rowOf_7 (e_rows : Int32) (e_read : Nat → Int32) (e_begins : Nat → Int32) (p1 : Int32) : Nat → Int32 → Int32 → Int32 → Option Int32
  | 0, _, _, _ => none
  | n + 1, x2, x3, x4 =>
    if e_rows ≤ x4 then (
    some (x2))
    else (
    bd1 (m_Md_begin x4 p1 e_read e_begins) (fun r_20 =>
    if r_20 < x3 then (
    k_Md_rowOf_37 e_rows e_read e_begins p1 (k_Md_rowOf_7 e_rows e_read e_begins p1 n)  x3 x4 r_20 x2)
    else (
    k_Md_rowOf_37 e_rows e_read e_begins p1 (k_Md_rowOf_7 e_rows e_read e_begins p1 n)  x3 x4 r_20 x4)))
theorem k_Md_rowOf_7_s (e_rows : Int32) (e_read : Nat → Int32) (e_begins : Nat → Int32) (p1 : Int32) (n : Nat) (x2 : Int32) (x3 : Int32) (x4 : Int32) : k_Md_rowOf_7 e_rows e_read e_begins p1 (n + 1) x2 x3 x4 = (
    if e_rows ≤ x4 then (
    some (x2))
    else (
    bd1 (m_Md_begin x4 p1 e_read e_begins) (fun r_20 =>
    if r_20 < x3 then (
    k_Md_rowOf_37 e_rows e_read e_begins p1 (k_Md_rowOf_7 e_rows e_read e_begins p1 n)  x3 x4 r_20 x2)
    else (
    k_Md_rowOf_37 e_rows e_read e_begins p1 (k_Md_rowOf_7 e_rows e_read e_begins p1 n)  x3 x4 r_20 x4)))) := rfl
theorem k_Md_rowOf_7_z (e_rows : Int32) (e_read : Nat → Int32) (e_begins : Nat → Int32) (p1 : Int32) (x2 : Int32) (x3 : Int32) (x4 : Int32) : k_Md_rowOf_7 e_rows e_read e_begins p1 0 x2 x3 x4 = none := rfl
def m_Md_rowOf (p1 : Int32) (e_rows : Int32) (e_read : Nat → Int32) (e_begins : Nat → Int32) : Option Int32 :=
    k_Md_rowOf_7 e_rows e_read e_begins p1 2000 (-1) 1 0
def m_Md_part (p1 : Int32) (p2 : Int32) (p3 : Int64) (e_thrown : Int32) (e_parts : Int32) (e_partCode : Nat → Int32) (e_partLand : Nat → Int32) (e_partCents : Nat → Int64) : Option (Int32 × Int32 × Int32 × (Nat → Int32) × (Nat → Int32) × (Nat → Int64)) :=
    bd1 (m_Md_in ((p1).toInt64) 1 999999) (fun r_6 =>
    if (bI r_6) = 0 then (
    bd2 (m_Md_refuse 1 e_thrown) (fun r_37 e_thrown_37 =>
    some (r_37, e_thrown_37, e_parts, e_partCode, e_partLand, e_partCents)))
    else (
    bd1 (m_Md_in ((p2).toInt64) 0 9) (fun r_18 =>
    if (bI r_18) = 0 then (
    bd2 (m_Md_refuse 1 e_thrown) (fun r_37 e_thrown_37 =>
    some (r_37, e_thrown_37, e_parts, e_partCode, e_partLand, e_partCents)))
    else (
    bd1 (m_Md_in p3 0 1000000000) (fun r_29 =>
    if (bI r_29) = 0 then (
    bd2 (m_Md_refuse 1 e_thrown) (fun r_37 e_thrown_37 =>
    some (r_37, e_thrown_37, e_parts, e_partCode, e_partLand, e_partCents)))
    else (
    if e_parts = 12 then (
    bd2 (m_Md_refuse 2 e_thrown) (fun r_52 e_thrown_52 =>
    some (r_52, e_thrown_52, e_parts, e_partCode, e_partLand, e_partCents)))
    else (
    ixg e_parts 12 (
    ixg e_parts 12 (
    ixg e_parts 12 (
    some (e_parts + 1, 0, e_parts + 1, upd e_partCode e_parts.toNatClampNeg p1, upd e_partLand e_parts.toNatClampNeg p2, vp_updL e_partCents e_parts.toNatClampNeg p3)))))))))))
def m_Md_clear  (e_thrown : Int32) (e_parts : Int32) (e_done : Int32) : Option (Int32 × Int32 × Int32 × Int32) :=
    some (e_parts, 0, 0, 0)
def m_Md_process (p1 : Int32) (e_thrown : Int32) (e_done : Int32) : Option (Bool × Int32 × Int32) :=
    bd1 (m_Md_in ((p1).toInt64) 0 15) (fun r_11 =>
    if (bI r_11) = 0 then (
    some (false, 0, e_done))
    else (
    if ((e_done >>> (p1 &&& 31)) &&& 1) = 1 then (
    some (false, 0, e_done))
    else (
    some (true, 0, e_done ||| (1 <<< (p1 &&& 31))))))
def k_Md_bar_34  (p1 : Int32) (p2 : Bool) (s0 : Bool) (e_thrown : Int32) (e_barred : Int32) : Option (Bool × Int32 × Int32) :=
    if (bI s0) = (bI p2) then (
    some (false, e_thrown, e_barred))
    else (
    some (true, e_thrown, e_barred ^^^ (1 <<< (p1 &&& 31))))
def m_Md_bar (p1 : Int32) (p2 : Bool) (e_thrown : Int32) (e_barred : Int32) : Option (Bool × Int32 × Int32) :=
    bd1 (m_Md_in ((p1).toInt64) 0 15) (fun r_11 =>
    if (bI r_11) = 0 then (
    some (false, 0, e_barred))
    else (
    if ((e_barred >>> (p1 &&& 31)) &&& 1) = 1 then (
    k_Md_bar_34 p1 p2  true 0 e_barred)
    else (
    k_Md_bar_34 p1 p2  false 0 e_barred)))
def m_Md_join (p1 : Int32) (p2 : Int32) (e_thrown : Int32) (e_pairs : Int32) (e_joined : Nat → Int32) : Option (Int32 × Int32 × Int32 × (Nat → Int32)) :=
    bd1 (m_Md_in ((p1).toInt64) 0 9) (fun r_6 =>
    if (bI r_6) = 0 then (
    bd2 (m_Md_refuse 1 e_thrown) (fun r_31 e_thrown_31 =>
    some (r_31, e_thrown_31, e_pairs, e_joined)))
    else (
    bd1 (m_Md_in ((p2).toInt64) 0 9) (fun r_18 =>
    if (bI r_18) = 0 then (
    bd2 (m_Md_refuse 1 e_thrown) (fun r_31 e_thrown_31 =>
    some (r_31, e_thrown_31, e_pairs, e_joined)))
    else (
    if p1 = p2 then (
    bd2 (m_Md_refuse 1 e_thrown) (fun r_31 e_thrown_31 =>
    some (r_31, e_thrown_31, e_pairs, e_joined)))
    else (
    ixg ((10 * p1) + p2) 100 (
    if (e_joined ((10 * p1) + p2).toNatClampNeg) = 0 then (
    ixg ((10 * p1) + p2) 100 (
    ixg ((10 * p2) + p1) 100 (
    some (1, 0, e_pairs + 1, upd (upd e_joined ((10 * p1) + p2).toNatClampNeg (vp_nar .boolean 1)) ((10 * p2) + p1).toNatClampNeg (vp_nar .boolean 1)))))
    else (
    some (0, 0, e_pairs, e_joined))))))))
def m_Md_full (p1 : Bool) (e_thrown : Int32) (e_full : Bool) : Option (Bool × Int32 × Bool) :=
    if (bI e_full) = (bI p1) then (
    some (false, 0, p1))
    else (
    some (true, 0, p1))
def m_Md_tolerance (p1 : Int32) (p2 : Int32) (e_thrown : Int32) (e_up : Int32) (e_down : Int32) : Option (Bool × Int32 × Int32 × Int32) :=
    bd1 (m_Md_in ((p2).toInt64) 1 1000) (fun r_11 =>
    if (bI r_11) = 0 then (
    some (false, 0, e_up, e_down))
    else (
    bd1 (m_Md_in ((p1).toInt64) 0 ((p2).toInt64)) (fun r_22 =>
    if (bI r_22) = 0 then (
    some (false, 0, e_up, e_down))
    else (
    some (true, 0, p1, p2)))))
def k_Md_isOwn_27 (e_full : Bool) (e_joined : Nat → Int32) (p1 : Int32) (Ko4 : Int32 → Int32 → Option Bool) : Nat → Int32 → Int32 → Int32 → Int32 → Option Bool
  | 0, _, _, _, _ => none
  | n + 1, x2, x3, x4, x5 =>
    if 100 ≤ x5 then (
    Ko4 x2 (x3 + 1))
    else (
    ixg x5 100 (
    if (e_joined x5.toNatClampNeg) = 0 then (
    k_Md_isOwn_27 e_full e_joined p1 Ko4 n (x2 ||| 0) x3 x4 (x5 + 1))
    else (
    if ((x4 >>> ((x5 / 10) &&& 31)) &&& 1) = 1 then (
    k_Md_isOwn_27 e_full e_joined p1 Ko4 n (x2 ||| (1 <<< ((x5 - x5 / 10 * 10) &&& 31))) x3 x4 (x5 + 1))
    else (
    k_Md_isOwn_27 e_full e_joined p1 Ko4 n (x2 ||| 0) x3 x4 (x5 + 1)))))
theorem k_Md_isOwn_27_s (e_full : Bool) (e_joined : Nat → Int32) (p1 : Int32) (Ko4 : Int32 → Int32 → Option Bool) (n : Nat) (x2 : Int32) (x3 : Int32) (x4 : Int32) (x5 : Int32) : k_Md_isOwn_27 e_full e_joined p1 Ko4 (n + 1) x2 x3 x4 x5 = (
    if 100 ≤ x5 then (
    Ko4 x2 (x3 + 1))
    else (
    ixg x5 100 (
    if (e_joined x5.toNatClampNeg) = 0 then (
    k_Md_isOwn_27 e_full e_joined p1 Ko4 n (x2 ||| 0) x3 x4 (x5 + 1))
    else (
    if ((x4 >>> ((x5 / 10) &&& 31)) &&& 1) = 1 then (
    k_Md_isOwn_27 e_full e_joined p1 Ko4 n (x2 ||| (1 <<< ((x5 - x5 / 10 * 10) &&& 31))) x3 x4 (x5 + 1))
    else (
    k_Md_isOwn_27 e_full e_joined p1 Ko4 n (x2 ||| 0) x3 x4 (x5 + 1)))))) := rfl
theorem k_Md_isOwn_27_z (e_full : Bool) (e_joined : Nat → Int32) (p1 : Int32) (Ko4 : Int32 → Int32 → Option Bool) (x2 : Int32) (x3 : Int32) (x4 : Int32) (x5 : Int32) : k_Md_isOwn_27 e_full e_joined p1 Ko4 0 x2 x3 x4 x5 = none := rfl
def k_Md_isOwn_18 (e_full : Bool) (e_joined : Nat → Int32) (p1 : Int32) (Ko4 : Int32 → Int32 → Option Bool) (x2 : Int32) (x3 : Int32) (s0 : Int32) (s1 : Int32) : Option Bool :=
    if s1 ≤ s0 then (
    if ((x2 >>> (p1 &&& 31)) &&& 1) = 1 then (
    some (true))
    else (
    some (false)))
    else (
    k_Md_isOwn_27 e_full e_joined p1 Ko4 2000 x2 x3 x2 0)
def k_Md_isOwn_4 (e_full : Bool) (e_joined : Nat → Int32) (p1 : Int32) : Nat → Int32 → Int32 → Option Bool
  | 0, _, _ => none
  | n + 1, x2, x3 =>
    if (bI e_full) = 0 then (
    k_Md_isOwn_18 e_full e_joined p1 (k_Md_isOwn_4 e_full e_joined p1 n)  x2 x3 x3 1)
    else (
    k_Md_isOwn_18 e_full e_joined p1 (k_Md_isOwn_4 e_full e_joined p1 n)  x2 x3 x3 10)
theorem k_Md_isOwn_4_s (e_full : Bool) (e_joined : Nat → Int32) (p1 : Int32) (n : Nat) (x2 : Int32) (x3 : Int32) : k_Md_isOwn_4 e_full e_joined p1 (n + 1) x2 x3 = (
    if (bI e_full) = 0 then (
    k_Md_isOwn_18 e_full e_joined p1 (k_Md_isOwn_4 e_full e_joined p1 n)  x2 x3 x3 1)
    else (
    k_Md_isOwn_18 e_full e_joined p1 (k_Md_isOwn_4 e_full e_joined p1 n)  x2 x3 x3 10)) := rfl
theorem k_Md_isOwn_4_z (e_full : Bool) (e_joined : Nat → Int32) (p1 : Int32) (x2 : Int32) (x3 : Int32) : k_Md_isOwn_4 e_full e_joined p1 0 x2 x3 = none := rfl
def m_Md_isOwn (p1 : Int32) (e_full : Bool) (e_joined : Nat → Int32) : Option Bool :=
    k_Md_isOwn_4 e_full e_joined p1 2000 1 0
def k_Md_own_18 (e_full : Bool) (e_joined : Nat → Int32) (p1 : Int32) (s1 : Bool) (e_thrown : Int32) : Option (Bool × Int32) :=
    if (bI s1) = 0 then (
    bd1 (m_Md_isOwn p1 e_full e_joined) (fun r_30 =>
    if (bI r_30) = 0 then (
    some (false, (bI s1)))
    else (
    some (true, (bI s1)))))
    else (
    some (false, (bI s1)))
def m_Md_own (p1 : Int32) (e_full : Bool) (e_joined : Nat → Int32) (e_thrown : Int32) : Option (Bool × Int32) :=
    bd1 (m_Md_in ((p1).toInt64) 0 9) (fun r_7 =>
    if (bI r_7) = 0 then (
    k_Md_own_18 e_full e_joined p1  true e_thrown)
    else (
    k_Md_own_18 e_full e_joined p1  false e_thrown))
def k_Md_foreign_4 (e_parts : Int32) (e_full : Bool) (e_partLand : Nat → Int32) (e_partCents : Nat → Int64) (e_joined : Nat → Int32)  : Nat → Int64 → Int32 → Option Int64
  | 0, _, _ => none
  | n + 1, x1, x3 =>
    if e_parts ≤ x3 then (
    some (x1))
    else (
    ixg x3 12 (
    bd1 (m_Md_isOwn (e_partLand x3.toNatClampNeg) e_full e_joined) (fun r_20 =>
    if (bI r_20) = 0 then (
    ixg x3 12 (
    k_Md_foreign_4 e_parts e_full e_partLand e_partCents e_joined n (x1 + (e_partCents x3.toNatClampNeg)) (x3 + 1)))
    else (
    k_Md_foreign_4 e_parts e_full e_partLand e_partCents e_joined n (x1 + 0) (x3 + 1)))))
theorem k_Md_foreign_4_s (e_parts : Int32) (e_full : Bool) (e_partLand : Nat → Int32) (e_partCents : Nat → Int64) (e_joined : Nat → Int32)  (n : Nat) (x1 : Int64) (x3 : Int32) : k_Md_foreign_4 e_parts e_full e_partLand e_partCents e_joined (n + 1) x1 x3 = (
    if e_parts ≤ x3 then (
    some (x1))
    else (
    ixg x3 12 (
    bd1 (m_Md_isOwn (e_partLand x3.toNatClampNeg) e_full e_joined) (fun r_20 =>
    if (bI r_20) = 0 then (
    ixg x3 12 (
    k_Md_foreign_4 e_parts e_full e_partLand e_partCents e_joined n (x1 + (e_partCents x3.toNatClampNeg)) (x3 + 1)))
    else (
    k_Md_foreign_4 e_parts e_full e_partLand e_partCents e_joined n (x1 + 0) (x3 + 1)))))) := rfl
theorem k_Md_foreign_4_z (e_parts : Int32) (e_full : Bool) (e_partLand : Nat → Int32) (e_partCents : Nat → Int64) (e_joined : Nat → Int32)  (x1 : Int64) (x3 : Int32) : k_Md_foreign_4 e_parts e_full e_partLand e_partCents e_joined 0 x1 x3 = none := rfl
def m_Md_foreign  (e_parts : Int32) (e_full : Bool) (e_partLand : Nat → Int32) (e_partCents : Nat → Int64) (e_joined : Nat → Int32) : Option Int64 :=
    k_Md_foreign_4 e_parts e_full e_partLand e_partCents e_joined 2000 0 0
def k_Md_isOther_74 (e_parts : Int32) (e_full : Bool) (e_up : Int32) (e_down : Int32) (e_partCode : Nat → Int32) (e_partLand : Nat → Int32) (e_partCents : Nat → Int64) (e_joined : Nat → Int32) (p1 : Int32) (p2 : Int64) (p3 : Int32) (Ko9 : Int64 → Bool → Int32 → Option Bool) (x7 : Bool) (x8 : Int32) (x9 : Bool) (s0 : Int64) (s1 : Int64) : Option Bool :=
    if (bI x7) = 0 then (
    if (bI x9) = 0 then (
    Ko9 (s0 + s1) false (x8 + 1))
    else (
    Ko9 (s0 + s1) true (x8 + 1)))
    else (
    Ko9 (s0 + s1) true (x8 + 1))
def k_Md_isOther_54 (e_parts : Int32) (e_full : Bool) (e_up : Int32) (e_down : Int32) (e_partCode : Nat → Int32) (e_partLand : Nat → Int32) (e_partCents : Nat → Int64) (e_joined : Nat → Int32) (p1 : Int32) (p2 : Int64) (p3 : Int32) (Ko9 : Int64 → Bool → Int32 → Option Bool) (x5 : Int64) (x7 : Bool) (x8 : Int32) (s0 : Bool) : Option Bool :=
    if (bI s0) = 0 then (
    k_Md_isOther_74 e_parts e_full e_up e_down e_partCode e_partLand e_partCents e_joined p1 p2 p3 Ko9  x7 x8 s0 x5 0)
    else (
    ixg x8 12 (
    k_Md_isOther_74 e_parts e_full e_up e_down e_partCode e_partLand e_partCents e_joined p1 p2 p3 Ko9  x7 x8 s0 x5 (e_partCents x8.toNatClampNeg)))
def k_Md_isOther_53 (e_parts : Int32) (e_full : Bool) (e_up : Int32) (e_down : Int32) (e_partCode : Nat → Int32) (e_partLand : Nat → Int32) (e_partCents : Nat → Int64) (e_joined : Nat → Int32) (p1 : Int32) (p2 : Int64) (p3 : Int32) (Ko9 : Int64 → Bool → Int32 → Option Bool) (x5 : Int64) (x7 : Bool) (x8 : Int32) : Option Bool :=
    k_Md_isOther_54 e_parts e_full e_up e_down e_partCode e_partLand e_partCents e_joined p1 p2 p3 Ko9  x5 x7 x8 false
def k_Md_isOther_9 (e_parts : Int32) (e_full : Bool) (e_up : Int32) (e_down : Int32) (e_partCode : Nat → Int32) (e_partLand : Nat → Int32) (e_partCents : Nat → Int64) (e_joined : Nat → Int32) (p1 : Int32) (p2 : Int64) (p3 : Int32) : Nat → Int64 → Bool → Int32 → Option Bool
  | 0, _, _, _ => none
  | n + 1, x5, x7, x8 =>
    if e_parts ≤ x8 then (
    if (bI x7) = 0 then (
    some (true))
    else (
    if 0 < (lg_cmp (x5 * ((e_down).toInt64)) (p2 * ((e_up).toInt64))) then (
    some (false))
    else (
    some (true))))
    else (
    ixg x8 12 (
    bd1 (m_Md_isOwn (e_partLand x8.toNatClampNeg) e_full e_joined) (fun r_26 =>
    if (bI r_26) = 0 then (
    ixg x8 12 (
    nzgI p3 (
    nzgI p3 (
    if ((e_partCode x8.toNatClampNeg) / p3) = (p1 / p3) then (
    k_Md_isOther_54 e_parts e_full e_up e_down e_partCode e_partLand e_partCents e_joined p1 p2 p3 (k_Md_isOther_9 e_parts e_full e_up e_down e_partCode e_partLand e_partCents e_joined p1 p2 p3 n)  x5 x7 x8 true)
    else (
    k_Md_isOther_53 e_parts e_full e_up e_down e_partCode e_partLand e_partCents e_joined p1 p2 p3 (k_Md_isOther_9 e_parts e_full e_up e_down e_partCode e_partLand e_partCents e_joined p1 p2 p3 n)  x5 x7 x8)))))
    else (
    k_Md_isOther_53 e_parts e_full e_up e_down e_partCode e_partLand e_partCents e_joined p1 p2 p3 (k_Md_isOther_9 e_parts e_full e_up e_down e_partCode e_partLand e_partCents e_joined p1 p2 p3 n)  x5 x7 x8))))
theorem k_Md_isOther_9_s (e_parts : Int32) (e_full : Bool) (e_up : Int32) (e_down : Int32) (e_partCode : Nat → Int32) (e_partLand : Nat → Int32) (e_partCents : Nat → Int64) (e_joined : Nat → Int32) (p1 : Int32) (p2 : Int64) (p3 : Int32) (n : Nat) (x5 : Int64) (x7 : Bool) (x8 : Int32) : k_Md_isOther_9 e_parts e_full e_up e_down e_partCode e_partLand e_partCents e_joined p1 p2 p3 (n + 1) x5 x7 x8 = (
    if e_parts ≤ x8 then (
    if (bI x7) = 0 then (
    some (true))
    else (
    if 0 < (lg_cmp (x5 * ((e_down).toInt64)) (p2 * ((e_up).toInt64))) then (
    some (false))
    else (
    some (true))))
    else (
    ixg x8 12 (
    bd1 (m_Md_isOwn (e_partLand x8.toNatClampNeg) e_full e_joined) (fun r_26 =>
    if (bI r_26) = 0 then (
    ixg x8 12 (
    nzgI p3 (
    nzgI p3 (
    if ((e_partCode x8.toNatClampNeg) / p3) = (p1 / p3) then (
    k_Md_isOther_54 e_parts e_full e_up e_down e_partCode e_partLand e_partCents e_joined p1 p2 p3 (k_Md_isOther_9 e_parts e_full e_up e_down e_partCode e_partLand e_partCents e_joined p1 p2 p3 n)  x5 x7 x8 true)
    else (
    k_Md_isOther_53 e_parts e_full e_up e_down e_partCode e_partLand e_partCents e_joined p1 p2 p3 (k_Md_isOther_9 e_parts e_full e_up e_down e_partCode e_partLand e_partCents e_joined p1 p2 p3 n)  x5 x7 x8)))))
    else (
    k_Md_isOther_53 e_parts e_full e_up e_down e_partCode e_partLand e_partCents e_joined p1 p2 p3 (k_Md_isOther_9 e_parts e_full e_up e_down e_partCode e_partLand e_partCents e_joined p1 p2 p3 n)  x5 x7 x8))))) := rfl
theorem k_Md_isOther_9_z (e_parts : Int32) (e_full : Bool) (e_up : Int32) (e_down : Int32) (e_partCode : Nat → Int32) (e_partLand : Nat → Int32) (e_partCents : Nat → Int64) (e_joined : Nat → Int32) (p1 : Int32) (p2 : Int64) (p3 : Int32) (x5 : Int64) (x7 : Bool) (x8 : Int32) : k_Md_isOther_9 e_parts e_full e_up e_down e_partCode e_partLand e_partCents e_joined p1 p2 p3 0 x5 x7 x8 = none := rfl
def m_Md_isOther (p1 : Int32) (p2 : Int64) (p3 : Int32) (e_parts : Int32) (e_full : Bool) (e_up : Int32) (e_down : Int32) (e_partCode : Nat → Int32) (e_partLand : Nat → Int32) (e_partCents : Nat → Int64) (e_joined : Nat → Int32) : Option Bool :=
    k_Md_isOther_9 e_parts e_full e_up e_down e_partCode e_partLand e_partCents e_joined p1 p2 p3 2000 0 false 0
def k_Md_numberAt_6 (e_read : Nat → Int32) (p1 : Int32) : Nat → Int32 → Int32 → Option Int32
  | 0, _, _ => none
  | n + 1, x2, x3 =>
    ixg x3 300 (
    bd1 (m_Md_isDigit (e_read x3.toNatClampNeg)) (fun r_12 =>
    if (bI r_12) = 0 then (
    some (x2))
    else (
    ixg x3 300 (
    k_Md_numberAt_6 e_read p1 n (((10 * x2) + (e_read x3.toNatClampNeg)) - 48) (x3 + 1)))))
theorem k_Md_numberAt_6_s (e_read : Nat → Int32) (p1 : Int32) (n : Nat) (x2 : Int32) (x3 : Int32) : k_Md_numberAt_6 e_read p1 (n + 1) x2 x3 = (
    ixg x3 300 (
    bd1 (m_Md_isDigit (e_read x3.toNatClampNeg)) (fun r_12 =>
    if (bI r_12) = 0 then (
    some (x2))
    else (
    ixg x3 300 (
    k_Md_numberAt_6 e_read p1 n (((10 * x2) + (e_read x3.toNatClampNeg)) - 48) (x3 + 1)))))) := rfl
theorem k_Md_numberAt_6_z (e_read : Nat → Int32) (p1 : Int32) (x2 : Int32) (x3 : Int32) : k_Md_numberAt_6 e_read p1 0 x2 x3 = none := rfl
def m_Md_numberAt (p1 : Int32) (e_read : Nat → Int32) : Option Int32 :=
    k_Md_numberAt_6 e_read p1 2000 0 (p1 + 1)
def m_Md_holds (p1 : Int32) (p2 : Int32) (p3 : Int64) (e_parts : Int32) (e_done : Int32) (e_full : Bool) (e_up : Int32) (e_down : Int32) (e_read : Nat → Int32) (e_partCode : Nat → Int32) (e_partLand : Nat → Int32) (e_partCents : Nat → Int64) (e_joined : Nat → Int32) : Option Bool :=
    ixg p1 300 (
    if (e_read p1.toNatClampNeg) = 67 then (
    bd1 (m_Md_isOther p2 p3 10000 e_parts e_full e_up e_down e_partCode e_partLand e_partCents e_joined) (fun r_75 =>
    some (r_75)))
    else if (e_read p1.toNatClampNeg) = 72 then (
    bd1 (m_Md_isOther p2 p3 100 e_parts e_full e_up e_down e_partCode e_partLand e_partCents e_joined) (fun r_84 =>
    some (r_84)))
    else if (e_read p1.toNatClampNeg) = 83 then (
    bd1 (m_Md_isOther p2 p3 1 e_parts e_full e_up e_down e_partCode e_partLand e_partCents e_joined) (fun r_92 =>
    some (r_92)))
    else if (e_read p1.toNatClampNeg) = 86 then (
    if (lg_cmp p3 0) ≤ 0 then (
    some (false))
    else (
    bd1 (m_Md_foreign e_parts e_full e_partLand e_partCents e_joined) (fun r_106 =>
    bd1 (m_Md_numberAt p1 e_read) (fun r_112 =>
    if 0 < (lg_cmp (100 * r_106) (((r_112).toInt64) * p3)) then (
    some (false))
    else (
    some (true))))))
    else if (e_read p1.toNatClampNeg) = 87 then (
    if e_parts = 0 then (
    some (true))
    else (
    some (false)))
    else (
    bd1 (m_Md_numberAt p1 e_read) (fun r_134 =>
    if ((e_done >>> (r_134 &&& 31)) &&& 1) = 1 then (
    some (true))
    else (
    some (false)))))
def k_Md_ruled_266 (e_parts : Int32) (e_done : Int32) (e_full : Bool) (e_up : Int32) (e_down : Int32) (e_read : Nat → Int32) (e_begins : Nat → Int32) (e_partCode : Nat → Int32) (e_partLand : Nat → Int32) (e_partCents : Nat → Int64) (e_joined : Nat → Int32) (p1 : Int32) (p2 : Int32) (p3 : Int64) (Ko61 : Int32 → Int32 → Int32 → (Nat → Int32) → (Nat → Int32) → (Nat → Int32) → (Nat → Int32) → Option (Bool × Int32 × (Nat → Int32) × (Nat → Int32) × (Nat → Int32) × (Nat → Int32))) (x5 : Int32) (x7 : Int32) (s1 : Int32) (s2 : Bool) (e_asked : Int32) (e_told : Nat → Int32) (e_live : Nat → Int32) (e_any : Nat → Int32) (e_all : Nat → Int32) : Option (Bool × Int32 × (Nat → Int32) × (Nat → Int32) × (Nat → Int32) × (Nat → Int32)) :=
    ixg s1 9 (
    ixg x5 9 (
    Ko61 x5 (x7 + 1) e_asked e_told e_live (upd e_any s1.toNatClampNeg (vp_nar .boolean (bI s2))) (upd e_all x5.toNatClampNeg (vp_nar .boolean 1))))
def k_Md_ruled_261 (e_parts : Int32) (e_done : Int32) (e_full : Bool) (e_up : Int32) (e_down : Int32) (e_read : Nat → Int32) (e_begins : Nat → Int32) (e_partCode : Nat → Int32) (e_partLand : Nat → Int32) (e_partCents : Nat → Int64) (e_joined : Nat → Int32) (p1 : Int32) (p2 : Int32) (p3 : Int64) (Ko61 : Int32 → Int32 → Int32 → (Nat → Int32) → (Nat → Int32) → (Nat → Int32) → (Nat → Int32) → Option (Bool × Int32 × (Nat → Int32) × (Nat → Int32) × (Nat → Int32) × (Nat → Int32))) (x5 : Int32) (x7 : Int32) (s1 : Int32) (e_asked : Int32) (e_told : Nat → Int32) (e_live : Nat → Int32) (e_any : Nat → Int32) (e_all : Nat → Int32) : Option (Bool × Int32 × (Nat → Int32) × (Nat → Int32) × (Nat → Int32) × (Nat → Int32)) :=
    k_Md_ruled_266 e_parts e_done e_full e_up e_down e_read e_begins e_partCode e_partLand e_partCents e_joined p1 p2 p3 Ko61  x5 x7 s1 true e_asked e_told e_live e_any e_all
def k_Md_ruled_347 (e_parts : Int32) (e_done : Int32) (e_full : Bool) (e_up : Int32) (e_down : Int32) (e_read : Nat → Int32) (e_begins : Nat → Int32) (e_partCode : Nat → Int32) (e_partLand : Nat → Int32) (e_partCents : Nat → Int64) (e_joined : Nat → Int32) (p1 : Int32) (p2 : Int32) (p3 : Int64) (Ko61 : Int32 → Int32 → Int32 → (Nat → Int32) → (Nat → Int32) → (Nat → Int32) → (Nat → Int32) → Option (Bool × Int32 × (Nat → Int32) × (Nat → Int32) × (Nat → Int32) × (Nat → Int32))) (x5 : Int32) (x7 : Int32) (s1 : Int32) (s2 : Int32) (s3 : Bool) (e_asked : Int32) (e_told : Nat → Int32) (e_live : Nat → Int32) (e_any : Nat → Int32) (e_all : Nat → Int32) : Option (Bool × Int32 × (Nat → Int32) × (Nat → Int32) × (Nat → Int32) × (Nat → Int32)) :=
    ixg s1 300 (
    Ko61 x5 (x7 + 1) (e_asked + 1) (upd e_told s1.toNatClampNeg (s2 + (bI s3))) e_live e_any e_all)
def k_Md_ruled_117 (e_parts : Int32) (e_done : Int32) (e_full : Bool) (e_up : Int32) (e_down : Int32) (e_read : Nat → Int32) (e_begins : Nat → Int32) (e_partCode : Nat → Int32) (e_partLand : Nat → Int32) (e_partCents : Nat → Int64) (e_joined : Nat → Int32) (p1 : Int32) (p2 : Int32) (p3 : Int64) (Ko61 : Int32 → Int32 → Int32 → (Nat → Int32) → (Nat → Int32) → (Nat → Int32) → (Nat → Int32) → Option (Bool × Int32 × (Nat → Int32) × (Nat → Int32) × (Nat → Int32) × (Nat → Int32))) (x5 : Int32) (x7 : Int32) (x8 : Int32) (s0 : Bool) (e_asked : Int32) (e_told : Nat → Int32) (e_live : Nat → Int32) (e_any : Nat → Int32) (e_all : Nat → Int32) : Option (Bool × Int32 × (Nat → Int32) × (Nat → Int32) × (Nat → Int32) × (Nat → Int32)) :=
    if x8 = 40 then (
    ixg (x5 + 1) 9 (
    ixg (x5 + 1) 9 (
    ixg (x5 + 1) 9 (
    Ko61 (x5 + 1) (x7 + 1) e_asked e_told (upd e_live (x5 + 1).toNatClampNeg (vp_nar .boolean (bI s0))) (upd e_any (x5 + 1).toNatClampNeg (vp_nar .boolean 0)) (upd e_all (x5 + 1).toNatClampNeg (vp_nar .boolean 1))))))
    else (
    if x8 = 41 then (
    ixg ((x5 + (-1)) + 1) 9 (
    if (e_live ((x5 + (-1)) + 1).toNatClampNeg) = 0 then (
    ixg (x5 + (-1)) 9 (
    ixg (x5 + (-1)) 9 (
    Ko61 (x5 + (-1)) (x7 + 1) e_asked e_told e_live e_any (upd e_all (x5 + (-1)).toNatClampNeg (vp_nar .boolean (e_all (x5 + (-1)).toNatClampNeg))))))
    else (
    ixg ((x5 + (-1)) + 1) 9 (
    if (e_any ((x5 + (-1)) + 1).toNatClampNeg) = 0 then (
    ixg ((x5 + (-1)) + 1) 9 (
    if (e_all ((x5 + (-1)) + 1).toNatClampNeg) = 0 then (
    ixg (x5 + (-1)) 9 (
    Ko61 (x5 + (-1)) (x7 + 1) e_asked e_told e_live e_any (upd e_all (x5 + (-1)).toNatClampNeg (vp_nar .boolean 0))))
    else (
    ixg (x5 + (-1)) 9 (
    Ko61 (x5 + (-1)) (x7 + 1) e_asked e_told e_live e_any (upd e_all (x5 + (-1)).toNatClampNeg (vp_nar .boolean 1))))))
    else (
    ixg (x5 + (-1)) 9 (
    Ko61 (x5 + (-1)) (x7 + 1) e_asked e_told e_live e_any (upd e_all (x5 + (-1)).toNatClampNeg (vp_nar .boolean 1))))))))
    else (
    if x8 = 124 then (
    ixg x5 9 (
    if (e_any x5.toNatClampNeg) = 0 then (
    ixg x5 9 (
    if (e_all x5.toNatClampNeg) = 0 then (
    k_Md_ruled_266 e_parts e_done e_full e_up e_down e_read e_begins e_partCode e_partLand e_partCents e_joined p1 p2 p3 Ko61  x5 x7 x5 false e_asked e_told e_live e_any e_all)
    else (
    k_Md_ruled_261 e_parts e_done e_full e_up e_down e_read e_begins e_partCode e_partLand e_partCents e_joined p1 p2 p3 Ko61  x5 x7 x5 e_asked e_told e_live e_any e_all)))
    else (
    k_Md_ruled_261 e_parts e_done e_full e_up e_down e_read e_begins e_partCode e_partLand e_partCents e_joined p1 p2 p3 Ko61  x5 x7 x5 e_asked e_told e_live e_any e_all)))
    else (
    if (bI s0) = 0 then (
    Ko61 x5 (x7 + 1) e_asked e_told e_live e_any e_all)
    else (
    if x8 = 38 then (
    Ko61 x5 (x7 + 1) e_asked e_told e_live e_any e_all)
    else (
    bd1 (m_Md_isDigit x8) (fun r_292 =>
    if (bI r_292) = 0 then (
    bd1 (m_Md_holds x7 p2 p3 e_parts e_done e_full e_up e_down e_read e_partCode e_partLand e_partCents e_joined) (fun r_309 =>
    ixg x5 9 (
    ixg p1 21 (
    ixg x5 9 (
    if ((upd e_all x5.toNatClampNeg (vp_nar .boolean (bI r_309))) x5.toNatClampNeg) = 0 then (
    k_Md_ruled_347 e_parts e_done e_full e_up e_down e_read e_begins e_partCode e_partLand e_partCents e_joined p1 p2 p3 Ko61  x5 x7 e_asked (2 * (x7 - (e_begins p1.toNatClampNeg))) false e_asked e_told e_live e_any (upd e_all x5.toNatClampNeg (vp_nar .boolean (bI r_309))))
    else (
    k_Md_ruled_347 e_parts e_done e_full e_up e_down e_read e_begins e_partCode e_partLand e_partCents e_joined p1 p2 p3 Ko61  x5 x7 e_asked (2 * (x7 - (e_begins p1.toNatClampNeg))) true e_asked e_told e_live e_any (upd e_all x5.toNatClampNeg (vp_nar .boolean (bI r_309)))))))))
    else (
    Ko61 x5 (x7 + 1) e_asked e_told e_live e_any e_all)))))))
def k_Md_ruled_116 (e_parts : Int32) (e_done : Int32) (e_full : Bool) (e_up : Int32) (e_down : Int32) (e_read : Nat → Int32) (e_begins : Nat → Int32) (e_partCode : Nat → Int32) (e_partLand : Nat → Int32) (e_partCents : Nat → Int64) (e_joined : Nat → Int32) (p1 : Int32) (p2 : Int32) (p3 : Int64) (Ko61 : Int32 → Int32 → Int32 → (Nat → Int32) → (Nat → Int32) → (Nat → Int32) → (Nat → Int32) → Option (Bool × Int32 × (Nat → Int32) × (Nat → Int32) × (Nat → Int32) × (Nat → Int32))) (x5 : Int32) (x7 : Int32) (x8 : Int32) (e_asked : Int32) (e_told : Nat → Int32) (e_live : Nat → Int32) (e_any : Nat → Int32) (e_all : Nat → Int32) : Option (Bool × Int32 × (Nat → Int32) × (Nat → Int32) × (Nat → Int32) × (Nat → Int32)) :=
    k_Md_ruled_117 e_parts e_done e_full e_up e_down e_read e_begins e_partCode e_partLand e_partCents e_joined p1 p2 p3 Ko61  x5 x7 x8 false e_asked e_told e_live e_any e_all
def k_Md_ruled_61 (e_parts : Int32) (e_done : Int32) (e_full : Bool) (e_up : Int32) (e_down : Int32) (e_read : Nat → Int32) (e_begins : Nat → Int32) (e_partCode : Nat → Int32) (e_partLand : Nat → Int32) (e_partCents : Nat → Int64) (e_joined : Nat → Int32) (p1 : Int32) (p2 : Int32) (p3 : Int64) : Nat → Int32 → Int32 → Int32 → (Nat → Int32) → (Nat → Int32) → (Nat → Int32) → (Nat → Int32) → Option (Bool × Int32 × (Nat → Int32) × (Nat → Int32) × (Nat → Int32) × (Nat → Int32))
  | 0, _, _, _, _, _, _, _ => none
  | n + 1, x5, x7, e_asked, e_told, e_live, e_any, e_all =>
    ixg x7 300 (
    if (e_read x7.toNatClampNeg) = 59 then (
    ixg 0 9 (
    if (e_any (0 : Int32).toNatClampNeg) = 0 then (
    ixg 0 9 (
    if (e_all (0 : Int32).toNatClampNeg) = 0 then (
    some (false, e_asked, e_told, e_live, e_any, e_all))
    else (
    some (true, e_asked, e_told, e_live, e_any, e_all))))
    else (
    some (true, e_asked, e_told, e_live, e_any, e_all))))
    else (
    ixg x7 300 (
    ixg x5 9 (
    if (e_live x5.toNatClampNeg) = 0 then (
    k_Md_ruled_116 e_parts e_done e_full e_up e_down e_read e_begins e_partCode e_partLand e_partCents e_joined p1 p2 p3 (k_Md_ruled_61 e_parts e_done e_full e_up e_down e_read e_begins e_partCode e_partLand e_partCents e_joined p1 p2 p3 n)  x5 x7 (e_read x7.toNatClampNeg) e_asked e_told e_live e_any e_all)
    else (
    ixg x5 9 (
    if (e_any x5.toNatClampNeg) = 0 then (
    ixg x5 9 (
    if (e_all x5.toNatClampNeg) = 0 then (
    k_Md_ruled_116 e_parts e_done e_full e_up e_down e_read e_begins e_partCode e_partLand e_partCents e_joined p1 p2 p3 (k_Md_ruled_61 e_parts e_done e_full e_up e_down e_read e_begins e_partCode e_partLand e_partCents e_joined p1 p2 p3 n)  x5 x7 (e_read x7.toNatClampNeg) e_asked e_told e_live e_any e_all)
    else (
    k_Md_ruled_117 e_parts e_done e_full e_up e_down e_read e_begins e_partCode e_partLand e_partCents e_joined p1 p2 p3 (k_Md_ruled_61 e_parts e_done e_full e_up e_down e_read e_begins e_partCode e_partLand e_partCents e_joined p1 p2 p3 n)  x5 x7 (e_read x7.toNatClampNeg) true e_asked e_told e_live e_any e_all)))
    else (
    k_Md_ruled_116 e_parts e_done e_full e_up e_down e_read e_begins e_partCode e_partLand e_partCents e_joined p1 p2 p3 (k_Md_ruled_61 e_parts e_done e_full e_up e_down e_read e_begins e_partCode e_partLand e_partCents e_joined p1 p2 p3 n)  x5 x7 (e_read x7.toNatClampNeg) e_asked e_told e_live e_any e_all)))))))
theorem k_Md_ruled_61_s (e_parts : Int32) (e_done : Int32) (e_full : Bool) (e_up : Int32) (e_down : Int32) (e_read : Nat → Int32) (e_begins : Nat → Int32) (e_partCode : Nat → Int32) (e_partLand : Nat → Int32) (e_partCents : Nat → Int64) (e_joined : Nat → Int32) (p1 : Int32) (p2 : Int32) (p3 : Int64) (n : Nat) (x5 : Int32) (x7 : Int32) (e_asked : Int32) (e_told : Nat → Int32) (e_live : Nat → Int32) (e_any : Nat → Int32) (e_all : Nat → Int32) : k_Md_ruled_61 e_parts e_done e_full e_up e_down e_read e_begins e_partCode e_partLand e_partCents e_joined p1 p2 p3 (n + 1) x5 x7 e_asked e_told e_live e_any e_all = (
    ixg x7 300 (
    if (e_read x7.toNatClampNeg) = 59 then (
    ixg 0 9 (
    if (e_any (0 : Int32).toNatClampNeg) = 0 then (
    ixg 0 9 (
    if (e_all (0 : Int32).toNatClampNeg) = 0 then (
    some (false, e_asked, e_told, e_live, e_any, e_all))
    else (
    some (true, e_asked, e_told, e_live, e_any, e_all))))
    else (
    some (true, e_asked, e_told, e_live, e_any, e_all))))
    else (
    ixg x7 300 (
    ixg x5 9 (
    if (e_live x5.toNatClampNeg) = 0 then (
    k_Md_ruled_116 e_parts e_done e_full e_up e_down e_read e_begins e_partCode e_partLand e_partCents e_joined p1 p2 p3 (k_Md_ruled_61 e_parts e_done e_full e_up e_down e_read e_begins e_partCode e_partLand e_partCents e_joined p1 p2 p3 n)  x5 x7 (e_read x7.toNatClampNeg) e_asked e_told e_live e_any e_all)
    else (
    ixg x5 9 (
    if (e_any x5.toNatClampNeg) = 0 then (
    ixg x5 9 (
    if (e_all x5.toNatClampNeg) = 0 then (
    k_Md_ruled_116 e_parts e_done e_full e_up e_down e_read e_begins e_partCode e_partLand e_partCents e_joined p1 p2 p3 (k_Md_ruled_61 e_parts e_done e_full e_up e_down e_read e_begins e_partCode e_partLand e_partCents e_joined p1 p2 p3 n)  x5 x7 (e_read x7.toNatClampNeg) e_asked e_told e_live e_any e_all)
    else (
    k_Md_ruled_117 e_parts e_done e_full e_up e_down e_read e_begins e_partCode e_partLand e_partCents e_joined p1 p2 p3 (k_Md_ruled_61 e_parts e_done e_full e_up e_down e_read e_begins e_partCode e_partLand e_partCents e_joined p1 p2 p3 n)  x5 x7 (e_read x7.toNatClampNeg) true e_asked e_told e_live e_any e_all)))
    else (
    k_Md_ruled_116 e_parts e_done e_full e_up e_down e_read e_begins e_partCode e_partLand e_partCents e_joined p1 p2 p3 (k_Md_ruled_61 e_parts e_done e_full e_up e_down e_read e_begins e_partCode e_partLand e_partCents e_joined p1 p2 p3 n)  x5 x7 (e_read x7.toNatClampNeg) e_asked e_told e_live e_any e_all)))))))) := rfl
theorem k_Md_ruled_61_z (e_parts : Int32) (e_done : Int32) (e_full : Bool) (e_up : Int32) (e_down : Int32) (e_read : Nat → Int32) (e_begins : Nat → Int32) (e_partCode : Nat → Int32) (e_partLand : Nat → Int32) (e_partCents : Nat → Int64) (e_joined : Nat → Int32) (p1 : Int32) (p2 : Int32) (p3 : Int64) (x5 : Int32) (x7 : Int32) (e_asked : Int32) (e_told : Nat → Int32) (e_live : Nat → Int32) (e_any : Nat → Int32) (e_all : Nat → Int32) : k_Md_ruled_61 e_parts e_done e_full e_up e_down e_read e_begins e_partCode e_partLand e_partCents e_joined p1 p2 p3 0 x5 x7 e_asked e_told e_live e_any e_all = none := rfl
def k_Md_ruled_37 (e_parts : Int32) (e_done : Int32) (e_full : Bool) (e_up : Int32) (e_down : Int32) (e_read : Nat → Int32) (e_begins : Nat → Int32) (e_partCode : Nat → Int32) (e_partLand : Nat → Int32) (e_partCents : Nat → Int64) (e_joined : Nat → Int32) (p1 : Int32) (p2 : Int32) (p3 : Int64) : Nat → Bool → Int32 → Int32 → (Nat → Int32) → (Nat → Int32) → (Nat → Int32) → (Nat → Int32) → Option (Bool × Int32 × (Nat → Int32) × (Nat → Int32) × (Nat → Int32) × (Nat → Int32))
  | 0, _, _, _, _, _, _, _ => none
  | n + 1, x5, x6, e_asked, e_told, e_live, e_any, e_all =>
    ixg x6 300 (
    if (e_read x6.toNatClampNeg) = 58 then (
    k_Md_ruled_61 e_parts e_done e_full e_up e_down e_read e_begins e_partCode e_partLand e_partCents e_joined p1 p2 p3 2000 (bI x5) (x6 + 1) e_asked e_told e_live e_any e_all)
    else (
    k_Md_ruled_37 e_parts e_done e_full e_up e_down e_read e_begins e_partCode e_partLand e_partCents e_joined p1 p2 p3 n x5 (x6 + 1) e_asked e_told e_live e_any e_all))
theorem k_Md_ruled_37_s (e_parts : Int32) (e_done : Int32) (e_full : Bool) (e_up : Int32) (e_down : Int32) (e_read : Nat → Int32) (e_begins : Nat → Int32) (e_partCode : Nat → Int32) (e_partLand : Nat → Int32) (e_partCents : Nat → Int64) (e_joined : Nat → Int32) (p1 : Int32) (p2 : Int32) (p3 : Int64) (n : Nat) (x5 : Bool) (x6 : Int32) (e_asked : Int32) (e_told : Nat → Int32) (e_live : Nat → Int32) (e_any : Nat → Int32) (e_all : Nat → Int32) : k_Md_ruled_37 e_parts e_done e_full e_up e_down e_read e_begins e_partCode e_partLand e_partCents e_joined p1 p2 p3 (n + 1) x5 x6 e_asked e_told e_live e_any e_all = (
    ixg x6 300 (
    if (e_read x6.toNatClampNeg) = 58 then (
    k_Md_ruled_61 e_parts e_done e_full e_up e_down e_read e_begins e_partCode e_partLand e_partCents e_joined p1 p2 p3 2000 (bI x5) (x6 + 1) e_asked e_told e_live e_any e_all)
    else (
    k_Md_ruled_37 e_parts e_done e_full e_up e_down e_read e_begins e_partCode e_partLand e_partCents e_joined p1 p2 p3 n x5 (x6 + 1) e_asked e_told e_live e_any e_all))) := rfl
theorem k_Md_ruled_37_z (e_parts : Int32) (e_done : Int32) (e_full : Bool) (e_up : Int32) (e_down : Int32) (e_read : Nat → Int32) (e_begins : Nat → Int32) (e_partCode : Nat → Int32) (e_partLand : Nat → Int32) (e_partCents : Nat → Int64) (e_joined : Nat → Int32) (p1 : Int32) (p2 : Int32) (p3 : Int64) (x5 : Bool) (x6 : Int32) (e_asked : Int32) (e_told : Nat → Int32) (e_live : Nat → Int32) (e_any : Nat → Int32) (e_all : Nat → Int32) : k_Md_ruled_37 e_parts e_done e_full e_up e_down e_read e_begins e_partCode e_partLand e_partCents e_joined p1 p2 p3 0 x5 x6 e_asked e_told e_live e_any e_all = none := rfl
def m_Md_ruled (p1 : Int32) (p2 : Int32) (p3 : Int64) (e_parts : Int32) (e_done : Int32) (e_full : Bool) (e_up : Int32) (e_down : Int32) (e_read : Nat → Int32) (e_begins : Nat → Int32) (e_partCode : Nat → Int32) (e_partLand : Nat → Int32) (e_partCents : Nat → Int64) (e_joined : Nat → Int32) (e_asked : Int32) (e_told : Nat → Int32) (e_live : Nat → Int32) (e_any : Nat → Int32) (e_all : Nat → Int32) : Option (Bool × Int32 × (Nat → Int32) × (Nat → Int32) × (Nat → Int32) × (Nat → Int32)) :=
    ixg 0 9 (
    ixg 0 9 (
    ixg 0 9 (
    ixg p1 21 (
    k_Md_ruled_37 e_parts e_done e_full e_up e_down e_read e_begins e_partCode e_partLand e_partCents e_joined p1 p2 p3 2000 false (e_begins p1.toNatClampNeg) 0 e_told (upd e_live (0 : Int32).toNatClampNeg (vp_nar .boolean 1)) (upd e_any (0 : Int32).toNatClampNeg (vp_nar .boolean 0)) (upd e_all (0 : Int32).toNatClampNeg (vp_nar .boolean 1))))))
def k_Md_verdict_71 (e_rows : Int32) (e_parts : Int32) (e_done : Int32) (e_barred : Int32) (e_full : Bool) (e_up : Int32) (e_down : Int32) (e_read : Nat → Int32) (e_begins : Nat → Int32) (e_partCode : Nat → Int32) (e_partLand : Nat → Int32) (e_partCents : Nat → Int64) (e_joined : Nat → Int32) (p1 : Int32) (p2 : Int64) (x4 : Int32) (e_thrown : Int32) (e_asked : Int32) (e_told : Nat → Int32) (e_live : Nat → Int32) (e_any : Nat → Int32) (e_all : Nat → Int32) : Option (Int32 × Int32 × Int32 × (Nat → Int32) × (Nat → Int32) × (Nat → Int32) × (Nat → Int32)) :=
    bd6 (m_Md_ruled x4 p1 p2 e_parts e_done e_full e_up e_down e_read e_begins e_partCode e_partLand e_partCents e_joined e_asked e_told e_live e_any e_all) (fun r_76 e_asked_76 e_told_76 e_live_76 e_any_76 e_all_76 =>
    if (bI r_76) = 0 then (
    some (0, e_thrown, e_asked_76, e_told_76, e_live_76, e_any_76, e_all_76))
    else (
    some (1, e_thrown, e_asked_76, e_told_76, e_live_76, e_any_76, e_all_76)))
def m_Md_verdict (p1 : Int32) (p2 : Int64) (e_rows : Int32) (e_parts : Int32) (e_done : Int32) (e_barred : Int32) (e_full : Bool) (e_up : Int32) (e_down : Int32) (e_read : Nat → Int32) (e_begins : Nat → Int32) (e_partCode : Nat → Int32) (e_partLand : Nat → Int32) (e_partCents : Nat → Int64) (e_joined : Nat → Int32) (e_thrown : Int32) (e_asked : Int32) (e_told : Nat → Int32) (e_live : Nat → Int32) (e_any : Nat → Int32) (e_all : Nat → Int32) : Option (Int32 × Int32 × Int32 × (Nat → Int32) × (Nat → Int32) × (Nat → Int32) × (Nat → Int32)) :=
    bd1 (m_Md_in ((p1).toInt64) 1 999999) (fun r_6 =>
    if (bI r_6) = 0 then (
    bd2 (m_Md_refuse 1 e_thrown) (fun r_25 e_thrown_25 =>
    some (r_25, e_thrown_25, e_asked, e_told, e_live, e_any, e_all)))
    else (
    bd1 (m_Md_in p2 0 1000000000) (fun r_17 =>
    if (bI r_17) = 0 then (
    bd2 (m_Md_refuse 1 e_thrown) (fun r_25 e_thrown_25 =>
    some (r_25, e_thrown_25, e_asked, e_told, e_live, e_any, e_all)))
    else (
    bd1 (m_Md_rowOf p1 e_rows e_read e_begins) (fun r_36 =>
    if 0 ≤ r_36 then (
    if e_done = 0 then (
    k_Md_verdict_71 e_rows e_parts e_done e_barred e_full e_up e_down e_read e_begins e_partCode e_partLand e_partCents e_joined p1 p2  r_36 0 e_asked e_told e_live e_any e_all)
    else (
    if (e_done &&& (e_barred ^^^ (-1))) = 0 then (
    some (2, 0, e_asked, e_told, e_live, e_any, e_all))
    else (
    k_Md_verdict_71 e_rows e_parts e_done e_barred e_full e_up e_down e_read e_begins e_partCode e_partLand e_partCents e_joined p1 p2  r_36 0 e_asked e_told e_live e_any e_all)))
    else (
    some (3, 0, e_asked, e_told, e_live, e_any, e_all)))))))
def m_Md_why (p1 : Int32) (e_asked : Int32) (e_told : Nat → Int32) (e_thrown : Int32) : Option (Int32 × Int32) :=
    if p1 < 0 then (
    some ((-1), 0))
    else (
    if e_asked ≤ p1 then (
    some ((-1), 0))
    else (
    ixg p1 300 (
    some (e_told p1.toNatClampNeg, 0))))
def k_Md_share_59 (e_parts : Int32) (e_full : Bool) (e_partLand : Nat → Int32) (e_partCents : Nat → Int64) (e_joined : Nat → Int32) (p1 : Int64) (p2 : Int32) : Nat → Int64 → Int64 → Int64 → Int32 → Option (Int64 × Int32)
  | 0, _, _, _, _ => none
  | n + 1, x4, x6, x8, e_thrown =>
    if (lg_cmp x8 0) ≤ 0 then (
    if p2 = 0 then (
    nzgJ x6 (
    some (x4 / x6, e_thrown)))
    else (
    nzgJ x6 (
    some (p1 / x6, e_thrown))))
    else (
    nzgJ x8 (
    k_Md_share_59 e_parts e_full e_partLand e_partCents e_joined p1 p2 n x4 x8 (x6 - x6 / x8 * x8) e_thrown))
theorem k_Md_share_59_s (e_parts : Int32) (e_full : Bool) (e_partLand : Nat → Int32) (e_partCents : Nat → Int64) (e_joined : Nat → Int32) (p1 : Int64) (p2 : Int32) (n : Nat) (x4 : Int64) (x6 : Int64) (x8 : Int64) (e_thrown : Int32) : k_Md_share_59 e_parts e_full e_partLand e_partCents e_joined p1 p2 (n + 1) x4 x6 x8 e_thrown = (
    if (lg_cmp x8 0) ≤ 0 then (
    if p2 = 0 then (
    nzgJ x6 (
    some (x4 / x6, e_thrown)))
    else (
    nzgJ x6 (
    some (p1 / x6, e_thrown))))
    else (
    nzgJ x8 (
    k_Md_share_59 e_parts e_full e_partLand e_partCents e_joined p1 p2 n x4 x8 (x6 - x6 / x8 * x8) e_thrown))) := rfl
theorem k_Md_share_59_z (e_parts : Int32) (e_full : Bool) (e_partLand : Nat → Int32) (e_partCents : Nat → Int64) (e_joined : Nat → Int32) (p1 : Int64) (p2 : Int32) (x4 : Int64) (x6 : Int64) (x8 : Int64) (e_thrown : Int32) : k_Md_share_59 e_parts e_full e_partLand e_partCents e_joined p1 p2 0 x4 x6 x8 e_thrown = none := rfl
def m_Md_share (p1 : Int64) (p2 : Int32) (e_parts : Int32) (e_full : Bool) (e_partLand : Nat → Int32) (e_partCents : Nat → Int64) (e_joined : Nat → Int32) (e_thrown : Int32) : Option (Int64 × Int32) :=
    bd1 (m_Md_in p1 0 1000000000) (fun r_5 =>
    if (bI r_5) = 0 then (
    bd2 (m_Md_refuse 1 e_thrown) (fun r_23 e_thrown_23 =>
    some ((r_23).toInt64, e_thrown_23)))
    else (
    bd1 (m_Md_in ((p2).toInt64) 0 1) (fun r_15 =>
    if (bI r_15) = 0 then (
    bd2 (m_Md_refuse 1 e_thrown) (fun r_23 e_thrown_23 =>
    some ((r_23).toInt64, e_thrown_23)))
    else (
    if (lg_cmp p1 0) = 0 then (
    bd2 (m_Md_refuse 2 e_thrown) (fun r_36 e_thrown_36 =>
    some ((r_36).toInt64, e_thrown_36)))
    else (
    bd1 (m_Md_foreign e_parts e_full e_partLand e_partCents e_joined) (fun r_47 =>
    k_Md_share_59 e_parts e_full e_partLand e_partCents e_joined p1 p2 2000 r_47 r_47 p1 0))))))
def m_Md_proof (p1 : Int32) (p2 : Int32) (p3 : Int32) (e_thrown : Int32) (e_proofs : Int32) (e_proofKind : Nat → Int32) (e_proofFrom : Nat → Int32) (e_proofTo : Nat → Int32) : Option (Int32 × Int32 × Int32 × (Nat → Int32) × (Nat → Int32) × (Nat → Int32)) :=
    bd1 (m_Md_in ((p1).toInt64) 0 1) (fun r_4 =>
    if (bI r_4) = 0 then (
    bd2 (m_Md_refuse 1 e_thrown) (fun r_31 e_thrown_31 =>
    some (r_31, e_thrown_31, e_proofs, e_proofKind, e_proofFrom, e_proofTo)))
    else (
    bd1 (m_Md_isDay p2) (fun r_11 =>
    if (bI r_11) = 0 then (
    bd2 (m_Md_refuse 1 e_thrown) (fun r_31 e_thrown_31 =>
    some (r_31, e_thrown_31, e_proofs, e_proofKind, e_proofFrom, e_proofTo)))
    else (
    bd1 (m_Md_isDay p3) (fun r_18 =>
    if (bI r_18) = 0 then (
    bd2 (m_Md_refuse 1 e_thrown) (fun r_31 e_thrown_31 =>
    some (r_31, e_thrown_31, e_proofs, e_proofKind, e_proofFrom, e_proofTo)))
    else (
    if p2 ≤ p3 then (
    if e_proofs = 20 then (
    bd2 (m_Md_refuse 2 e_thrown) (fun r_46 e_thrown_46 =>
    some (r_46, e_thrown_46, e_proofs, e_proofKind, e_proofFrom, e_proofTo)))
    else (
    ixg e_proofs 20 (
    ixg e_proofs 20 (
    ixg e_proofs 20 (
    some ((e_proofs + 1) - 1, 0, e_proofs + 1, upd e_proofKind e_proofs.toNatClampNeg p1, upd e_proofFrom e_proofs.toNatClampNeg p2, upd e_proofTo e_proofs.toNatClampNeg p3))))))
    else (
    bd2 (m_Md_refuse 1 e_thrown) (fun r_31 e_thrown_31 =>
    some (r_31, e_thrown_31, e_proofs, e_proofKind, e_proofFrom, e_proofTo)))))))))
def k_Md_good_65 (e_proofs : Int32) (e_proofKind : Nat → Int32) (e_proofFrom : Nat → Int32) (e_proofTo : Nat → Int32) (p1 : Int32) (p2 : Int64) (p3 : Int32) (e_thrown : Int32) : Option (Bool × Int32) :=
    ixg p1 20 (
    if p3 < (e_proofFrom p1.toNatClampNeg) then (
    some (false, e_thrown))
    else (
    ixg p1 20 (
    if (e_proofTo p1.toNatClampNeg) < p3 then (
    some (false, e_thrown))
    else (
    some (true, e_thrown)))))
def k_Md_good_37 (e_proofs : Int32) (e_proofKind : Nat → Int32) (e_proofFrom : Nat → Int32) (e_proofTo : Nat → Int32) (p1 : Int32) (p2 : Int64) (p3 : Int32) (s1 : Bool) (e_thrown : Int32) : Option (Bool × Int32) :=
    if (bI s1) = 0 then (
    ixg p1 20 (
    if (e_proofKind p1.toNatClampNeg) = 1 then (
    k_Md_good_65 e_proofs e_proofKind e_proofFrom e_proofTo p1 p2 p3  (bI s1))
    else (
    if 0 < (lg_cmp p2 1000000) then (
    some (false, (bI s1)))
    else (
    k_Md_good_65 e_proofs e_proofKind e_proofFrom e_proofTo p1 p2 p3  (bI s1)))))
    else (
    some (false, (bI s1)))
def k_Md_good_36 (e_proofs : Int32) (e_proofKind : Nat → Int32) (e_proofFrom : Nat → Int32) (e_proofTo : Nat → Int32) (p1 : Int32) (p2 : Int64) (p3 : Int32) (e_thrown : Int32) : Option (Bool × Int32) :=
    k_Md_good_37 e_proofs e_proofKind e_proofFrom e_proofTo p1 p2 p3  true e_thrown
def m_Md_good (p1 : Int32) (p2 : Int64) (p3 : Int32) (e_proofs : Int32) (e_proofKind : Nat → Int32) (e_proofFrom : Nat → Int32) (e_proofTo : Nat → Int32) (e_thrown : Int32) : Option (Bool × Int32) :=
    if p1 < 0 then (
    k_Md_good_36 e_proofs e_proofKind e_proofFrom e_proofTo p1 p2 p3  e_thrown)
    else (
    if e_proofs ≤ p1 then (
    k_Md_good_36 e_proofs e_proofKind e_proofFrom e_proofTo p1 p2 p3  e_thrown)
    else (
    bd1 (m_Md_in p2 0 1000000000) (fun r_18 =>
    if (bI r_18) = 0 then (
    k_Md_good_36 e_proofs e_proofKind e_proofFrom e_proofTo p1 p2 p3  e_thrown)
    else (
    bd1 (m_Md_isDay p3) (fun r_26 =>
    if (bI r_26) = 0 then (
    k_Md_good_36 e_proofs e_proofKind e_proofFrom e_proofTo p1 p2 p3  e_thrown)
    else (
    k_Md_good_37 e_proofs e_proofKind e_proofFrom e_proofTo p1 p2 p3  false e_thrown))))))
def k_Md_count_9 (e_signs : Int32) (e_rows : Int32) (e_parts : Int32) (e_done : Int32) (e_pairs : Int32) (e_full : Bool) (e_proofs : Int32) (e_asked : Int32) (e_partLand : Nat → Int32) (e_joined : Nat → Int32) (p1 : Int32) : Nat → Int32 → Int32 → Int32 → Option (Int32 × Int32)
  | 0, _, _, _ => none
  | n + 1, x2, x3, e_thrown =>
    if e_parts ≤ x3 then (
    if p1 = 0 then (
    some (e_signs, e_thrown))
    else if p1 = 1 then (
    some (e_rows, e_thrown))
    else if p1 = 2 then (
    some (e_parts, e_thrown))
    else if p1 = 3 then (
    some (x2, e_thrown))
    else if p1 = 4 then (
    some (e_done, e_thrown))
    else if p1 = 5 then (
    some (e_pairs, e_thrown))
    else if p1 = 6 then (
    some (e_proofs, e_thrown))
    else if p1 = 7 then (
    some (e_asked, e_thrown))
    else (
    some ((-1), e_thrown)))
    else (
    ixg x3 12 (
    bd1 (m_Md_isOwn (e_partLand x3.toNatClampNeg) e_full e_joined) (fun r_25 =>
    if (bI r_25) = 0 then (
    k_Md_count_9 e_signs e_rows e_parts e_done e_pairs e_full e_proofs e_asked e_partLand e_joined p1 n (x2 + 1) (x3 + 1) e_thrown)
    else (
    k_Md_count_9 e_signs e_rows e_parts e_done e_pairs e_full e_proofs e_asked e_partLand e_joined p1 n (x2 + 0) (x3 + 1) e_thrown))))
theorem k_Md_count_9_s (e_signs : Int32) (e_rows : Int32) (e_parts : Int32) (e_done : Int32) (e_pairs : Int32) (e_full : Bool) (e_proofs : Int32) (e_asked : Int32) (e_partLand : Nat → Int32) (e_joined : Nat → Int32) (p1 : Int32) (n : Nat) (x2 : Int32) (x3 : Int32) (e_thrown : Int32) : k_Md_count_9 e_signs e_rows e_parts e_done e_pairs e_full e_proofs e_asked e_partLand e_joined p1 (n + 1) x2 x3 e_thrown = (
    if e_parts ≤ x3 then (
    if p1 = 0 then (
    some (e_signs, e_thrown))
    else if p1 = 1 then (
    some (e_rows, e_thrown))
    else if p1 = 2 then (
    some (e_parts, e_thrown))
    else if p1 = 3 then (
    some (x2, e_thrown))
    else if p1 = 4 then (
    some (e_done, e_thrown))
    else if p1 = 5 then (
    some (e_pairs, e_thrown))
    else if p1 = 6 then (
    some (e_proofs, e_thrown))
    else if p1 = 7 then (
    some (e_asked, e_thrown))
    else (
    some ((-1), e_thrown)))
    else (
    ixg x3 12 (
    bd1 (m_Md_isOwn (e_partLand x3.toNatClampNeg) e_full e_joined) (fun r_25 =>
    if (bI r_25) = 0 then (
    k_Md_count_9 e_signs e_rows e_parts e_done e_pairs e_full e_proofs e_asked e_partLand e_joined p1 n (x2 + 1) (x3 + 1) e_thrown)
    else (
    k_Md_count_9 e_signs e_rows e_parts e_done e_pairs e_full e_proofs e_asked e_partLand e_joined p1 n (x2 + 0) (x3 + 1) e_thrown))))) := rfl
theorem k_Md_count_9_z (e_signs : Int32) (e_rows : Int32) (e_parts : Int32) (e_done : Int32) (e_pairs : Int32) (e_full : Bool) (e_proofs : Int32) (e_asked : Int32) (e_partLand : Nat → Int32) (e_joined : Nat → Int32) (p1 : Int32) (x2 : Int32) (x3 : Int32) (e_thrown : Int32) : k_Md_count_9 e_signs e_rows e_parts e_done e_pairs e_full e_proofs e_asked e_partLand e_joined p1 0 x2 x3 e_thrown = none := rfl
def m_Md_count (p1 : Int32) (e_signs : Int32) (e_rows : Int32) (e_parts : Int32) (e_done : Int32) (e_pairs : Int32) (e_full : Bool) (e_proofs : Int32) (e_asked : Int32) (e_partLand : Nat → Int32) (e_joined : Nat → Int32) (e_thrown : Int32) : Option (Int32 × Int32) :=
    k_Md_count_9 e_signs e_rows e_parts e_done e_pairs e_full e_proofs e_asked e_partLand e_joined p1 2000 0 0 0
