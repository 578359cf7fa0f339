-- models: partial functions (none: an index out of range, a division by 0, no fuel)
def bI : Bool → Int32
  | true => 1
  | false => 0
theorem bI_nar (b : Bool) : narrow .boolean (.int (bI b)) = .int (bI b) := by cases b <;> rfl
theorem bI_fit (b : Bool) : fits .boolean (.int (bI b)) = true := by cases b <;> rfl
theorem itT {α : Type} {c : Prop} [Decidable c] {a b r : Option α} (h : (if c then a else b) = r) (hc : c) : a = r := by rw [if_pos hc] at h; exact h
theorem itF {α : Type} {c : Prop} [Decidable c] {a b r : Option α} (h : (if c then a else b) = r) (hc : ¬ c) : b = r := by rw [if_neg hc] at h; exact h
def ixg {α : Type} (i : Int32) (n : Nat) (k : Option α) : Option α := if i < 0 ∨ n ≤ i.toNatClampNeg then none else k
theorem ixT {α : Type} {i : Int32} {n : Nat} {k : Option α} {r : α} (h : ixg i n k = some r) : vp_in i n ∧ k = some r := by
  unfold ixg at h
  by_cases hc : i < 0 ∨ n ≤ i.toNatClampNeg
  · rw [if_pos hc] at h; cases h
  · rw [if_neg hc] at h; exact ⟨hc, h⟩
def nzgI {α : Type} (y : Int32) (k : Option α) : Option α := if y = 0 then none else k
theorem nzTI {α : Type} {y : Int32} {k : Option α} {r : α} (h : nzgI y k = some r) : ¬ y = 0 ∧ k = some r := by
  unfold nzgI at h
  by_cases hc : y = 0
  · rw [if_pos hc] at h; cases h
  · rw [if_neg hc] at h; exact ⟨hc, h⟩
def nzgJ {α : Type} (y : Int64) (k : Option α) : Option α := if y = 0 then none else k
theorem nzTJ {α : Type} {y : Int64} {k : Option α} {r : α} (h : nzgJ y k = some r) : ¬ y = 0 ∧ k = some r := by
  unfold nzgJ at h
  by_cases hc : y = 0
  · rw [if_pos hc] at h; cases h
  · rw [if_neg hc] at h; exact ⟨hc, h⟩
def acg {α : Type} (ty : FieldType) (sp dp n : Int32) (n0 n1 : Nat) (f : Nat → Int32) (k : Option α) : Option α :=
  if ¬ sp < 0 ∧ ¬ dp < 0 ∧ ¬ n < 0 ∧ sp.toNatClampNeg + n.toNatClampNeg ≤ n0 ∧ dp.toNatClampNeg + n.toNatClampNeg ≤ n1 ∧ (∀ i, i < n.toNatClampNeg → fits ty (.int (f (sp.toNatClampNeg + i))) = true) then k else none
theorem acT {α : Type} {ty : FieldType} {sp dp n : Int32} {n0 n1 : Nat} {f : Nat → Int32} {k : Option α} {r : α} (h : acg ty sp dp n n0 n1 f k = some r) :
    ¬ sp < 0 ∧ ¬ dp < 0 ∧ ¬ n < 0 ∧ sp.toNatClampNeg + n.toNatClampNeg ≤ n0 ∧ dp.toNatClampNeg + n.toNatClampNeg ≤ n1 ∧ (∀ i, i < n.toNatClampNeg → fits ty (.int (f (sp.toNatClampNeg + i))) = true) ∧ k = some r := by
  unfold acg at h
  split at h
  · rename_i hc
    exact ⟨hc.1, hc.2.1, hc.2.2.1, hc.2.2.2.1, hc.2.2.2.2.1, hc.2.2.2.2.2, h⟩
  · cases h
theorem tsw8 {x : Int32} (h0 : ¬ x = 0) (h1 : ¬ x = 1) (h2 : ¬ x = 2) (h3 : ¬ x = 3) (h4 : ¬ x = 4) (h5 : ¬ x = 5) (h6 : ¬ x = 6) (h7 : ¬ x = 7) : x.toInt < 0 ∨ 7 < x.toInt := by
  have g0 := lv_neT (a := 0) h0 rfl
  have g1 := lv_neT (a := 1) h1 rfl
  have g2 := lv_neT (a := 2) h2 rfl
  have g3 := lv_neT (a := 3) h3 rfl
  have g4 := lv_neT (a := 4) h4 rfl
  have g5 := lv_neT (a := 5) h5 rfl
  have g6 := lv_neT (a := 6) h6 rfl
  have g7 := lv_neT (a := 7) h7 rfl
  omega
def bd0 {δ : Type} (x : Option (Unit)) (f : Unit → Option δ) : Option δ := match x with
  | some () => f ()
  | none => none
theorem bd0T {δ : Type} {x : Option (Unit)} {f : Unit → Option δ} {r : δ} (h : bd0 x f = some r) : x = some () ∧ f () = some r := by
  cases x with
  | none => exact absurd (show (none : Option δ) = some r from h) (by simp)
  | some q => exact ⟨rfl, h⟩
def bd1 {α0 δ : Type} (x : Option (α0)) (f : α0 → Option δ) : Option δ := match x with
  | some a0 => f a0
  | none => none
theorem bd1T {α0 δ : Type} {x : Option (α0)} {f : α0 → Option δ} {r : δ} (h : bd1 x f = some r) : ∃ a0, x = some a0 ∧ f a0 = some r := by
  cases x with
  | none => exact absurd (show (none : Option δ) = some r from h) (by simp)
  | some q => exact ⟨q, rfl, h⟩
def bd2 {α0 α1 δ : Type} (x : Option (α0 × α1)) (f : α0 → α1 → Option δ) : Option δ := match x with
  | some (a0, a1) => f a0 a1
  | none => none
theorem bd2T {α0 α1 δ : Type} {x : Option (α0 × α1)} {f : α0 → α1 → Option δ} {r : δ} (h : bd2 x f = some r) : ∃ a0 a1, x = some (a0, a1) ∧ f a0 a1 = some r := by
  cases x with
  | none => exact absurd (show (none : Option δ) = some r from h) (by simp)
  | some q => exact ⟨q.1, q.2, rfl, h⟩
def bd3 {α0 α1 α2 δ : Type} (x : Option (α0 × α1 × α2)) (f : α0 → α1 → α2 → Option δ) : Option δ := match x with
  | some (a0, a1, a2) => f a0 a1 a2
  | none => none
theorem bd3T {α0 α1 α2 δ : Type} {x : Option (α0 × α1 × α2)} {f : α0 → α1 → α2 → Option δ} {r : δ} (h : bd3 x f = some r) : ∃ a0 a1 a2, x = some (a0, a1, a2) ∧ f a0 a1 a2 = some r := by
  cases x with
  | none => exact absurd (show (none : Option δ) = some r from h) (by simp)
  | some q => exact ⟨q.1, q.2.1, q.2.2, rfl, h⟩
def bd4 {α0 α1 α2 α3 δ : Type} (x : Option (α0 × α1 × α2 × α3)) (f : α0 → α1 → α2 → α3 → Option δ) : Option δ := match x with
  | some (a0, a1, a2, a3) => f a0 a1 a2 a3
  | none => none
theorem bd4T {α0 α1 α2 α3 δ : Type} {x : Option (α0 × α1 × α2 × α3)} {f : α0 → α1 → α2 → α3 → Option δ} {r : δ} (h : bd4 x f = some r) : ∃ a0 a1 a2 a3, x = some (a0, a1, a2, a3) ∧ f a0 a1 a2 a3 = some r := by
  cases x with
  | none => exact absurd (show (none : Option δ) = some r from h) (by simp)
  | some q => exact ⟨q.1, q.2.1, q.2.2.1, q.2.2.2, rfl, h⟩
def bd5 {α0 α1 α2 α3 α4 δ : Type} (x : Option (α0 × α1 × α2 × α3 × α4)) (f : α0 → α1 → α2 → α3 → α4 → Option δ) : Option δ := match x with
  | some (a0, a1, a2, a3, a4) => f a0 a1 a2 a3 a4
  | none => none
theorem bd5T {α0 α1 α2 α3 α4 δ : Type} {x : Option (α0 × α1 × α2 × α3 × α4)} {f : α0 → α1 → α2 → α3 → α4 → Option δ} {r : δ} (h : bd5 x f = some r) : ∃ a0 a1 a2 a3 a4, x = some (a0, a1, a2, a3, a4) ∧ f a0 a1 a2 a3 a4 = some r := by
  cases x with
  | none => exact absurd (show (none : Option δ) = some r from h) (by simp)
  | some q => exact ⟨q.1, q.2.1, q.2.2.1, q.2.2.2.1, q.2.2.2.2, rfl, h⟩
def bd6 {α0 α1 α2 α3 α4 α5 δ : Type} (x : Option (α0 × α1 × α2 × α3 × α4 × α5)) (f : α0 → α1 → α2 → α3 → α4 → α5 → Option δ) : Option δ := match x with
  | some (a0, a1, a2, a3, a4, a5) => f a0 a1 a2 a3 a4 a5
  | none => none
theorem bd6T {α0 α1 α2 α3 α4 α5 δ : Type} {x : Option (α0 × α1 × α2 × α3 × α4 × α5)} {f : α0 → α1 → α2 → α3 → α4 → α5 → Option δ} {r : δ} (h : bd6 x f = some r) : ∃ a0 a1 a2 a3 a4 a5, x = some (a0, a1, a2, a3, a4, a5) ∧ f a0 a1 a2 a3 a4 a5 = some r := by
  cases x with
  | none => exact absurd (show (none : Option δ) = some r from h) (by simp)
  | some q => exact ⟨q.1, q.2.1, q.2.2.1, q.2.2.2.1, q.2.2.2.2.1, q.2.2.2.2.2, rfl, h⟩
def bd7 {α0 α1 α2 α3 α4 α5 α6 δ : Type} (x : Option (α0 × α1 × α2 × α3 × α4 × α5 × α6)) (f : α0 → α1 → α2 → α3 → α4 → α5 → α6 → Option δ) : Option δ := match x with
  | some (a0, a1, a2, a3, a4, a5, a6) => f a0 a1 a2 a3 a4 a5 a6
  | none => none
theorem bd7T {α0 α1 α2 α3 α4 α5 α6 δ : Type} {x : Option (α0 × α1 × α2 × α3 × α4 × α5 × α6)} {f : α0 → α1 → α2 → α3 → α4 → α5 → α6 → Option δ} {r : δ} (h : bd7 x f = some r) : ∃ a0 a1 a2 a3 a4 a5 a6, x = some (a0, a1, a2, a3, a4, a5, a6) ∧ f a0 a1 a2 a3 a4 a5 a6 = some r := by
  cases x with
  | none => exact absurd (show (none : Option δ) = some r from h) (by simp)
  | some q => exact ⟨q.1, q.2.1, q.2.2.1, q.2.2.2.1, q.2.2.2.2.1, q.2.2.2.2.2.1, q.2.2.2.2.2.2, rfl, h⟩
def bd8 {α0 α1 α2 α3 α4 α5 α6 α7 δ : Type} (x : Option (α0 × α1 × α2 × α3 × α4 × α5 × α6 × α7)) (f : α0 → α1 → α2 → α3 → α4 → α5 → α6 → α7 → Option δ) : Option δ := match x with
  | some (a0, a1, a2, a3, a4, a5, a6, a7) => f a0 a1 a2 a3 a4 a5 a6 a7
  | none => none
theorem bd8T {α0 α1 α2 α3 α4 α5 α6 α7 δ : Type} {x : Option (α0 × α1 × α2 × α3 × α4 × α5 × α6 × α7)} {f : α0 → α1 → α2 → α3 → α4 → α5 → α6 → α7 → Option δ} {r : δ} (h : bd8 x f = some r) : ∃ a0 a1 a2 a3 a4 a5 a6 a7, x = some (a0, a1, a2, a3, a4, a5, a6, a7) ∧ f a0 a1 a2 a3 a4 a5 a6 a7 = some r := by
  cases x with
  | none => exact absurd (show (none : Option δ) = some r from h) (by simp)
  | some q => exact ⟨q.1, q.2.1, q.2.2.1, q.2.2.2.1, q.2.2.2.2.1, q.2.2.2.2.2.1, q.2.2.2.2.2.2.1, q.2.2.2.2.2.2.2, rfl, h⟩
theorem so2T {α0 α1 : Type} {a0 b0 : α0} {a1 b1 : α1} (h : some (a0, a1) = some (b0, b1)) : a0 = b0 ∧ a1 = b1 := by
  have h := Option.some.inj h
  injection h with h0 h
  exact ⟨h0, h⟩
theorem so3T {α0 α1 α2 : Type} {a0 b0 : α0} {a1 b1 : α1} {a2 b2 : α2} (h : some (a0, a1, a2) = some (b0, b1, b2)) : a0 = b0 ∧ a1 = b1 ∧ a2 = b2 := by
  have h := Option.some.inj h
  injection h with h0 h
  injection h with h1 h
  exact ⟨h0, h1, h⟩
theorem so4T {α0 α1 α2 α3 : Type} {a0 b0 : α0} {a1 b1 : α1} {a2 b2 : α2} {a3 b3 : α3} (h : some (a0, a1, a2, a3) = some (b0, b1, b2, b3)) : a0 = b0 ∧ a1 = b1 ∧ a2 = b2 ∧ a3 = b3 := by
  have h := Option.some.inj h
  injection h with h0 h
  injection h with h1 h
  injection h with h2 h
  exact ⟨h0, h1, h2, h⟩
theorem so5T {α0 α1 α2 α3 α4 : Type} {a0 b0 : α0} {a1 b1 : α1} {a2 b2 : α2} {a3 b3 : α3} {a4 b4 : α4} (h : some (a0, a1, a2, a3, a4) = some (b0, b1, b2, b3, b4)) : a0 = b0 ∧ a1 = b1 ∧ a2 = b2 ∧ a3 = b3 ∧ a4 = b4 := by
  have h := Option.some.inj h
  injection h with h0 h
  injection h with h1 h
  injection h with h2 h
  injection h with h3 h
  exact ⟨h0, h1, h2, h3, h⟩
theorem so6T {α0 α1 α2 α3 α4 α5 : Type} {a0 b0 : α0} {a1 b1 : α1} {a2 b2 : α2} {a3 b3 : α3} {a4 b4 : α4} {a5 b5 : α5} (h : some (a0, a1, a2, a3, a4, a5) = some (b0, b1, b2, b3, b4, b5)) : a0 = b0 ∧ a1 = b1 ∧ a2 = b2 ∧ a3 = b3 ∧ a4 = b4 ∧ a5 = b5 := by
  have h := Option.some.inj h
  injection h with h0 h
  injection h with h1 h
  injection h with h2 h
  injection h with h3 h
  injection h with h4 h
  exact ⟨h0, h1, h2, h3, h4, h⟩
theorem so7T {α0 α1 α2 α3 α4 α5 α6 : Type} {a0 b0 : α0} {a1 b1 : α1} {a2 b2 : α2} {a3 b3 : α3} {a4 b4 : α4} {a5 b5 : α5} {a6 b6 : α6} (h : some (a0, a1, a2, a3, a4, a5, a6) = some (b0, b1, b2, b3, b4, b5, b6)) : a0 = b0 ∧ a1 = b1 ∧ a2 = b2 ∧ a3 = b3 ∧ a4 = b4 ∧ a5 = b5 ∧ a6 = b6 := by
  have h := Option.some.inj h
  injection h with h0 h
  injection h with h1 h
  injection h with h2 h
  injection h with h3 h
  injection h with h4 h
  injection h with h5 h
  exact ⟨h0, h1, h2, h3, h4, h5, h⟩
theorem so8T {α0 α1 α2 α3 α4 α5 α6 α7 : Type} {a0 b0 : α0} {a1 b1 : α1} {a2 b2 : α2} {a3 b3 : α3} {a4 b4 : α4} {a5 b5 : α5} {a6 b6 : α6} {a7 b7 : α7} (h : some (a0, a1, a2, a3, a4, a5, a6, a7) = some (b0, b1, b2, b3, b4, b5, b6, b7)) : a0 = b0 ∧ a1 = b1 ∧ a2 = b2 ∧ a3 = b3 ∧ a4 = b4 ∧ a5 = b5 ∧ a6 = b6 ∧ a7 = b7 := by
  have h := Option.some.inj h
  injection h with h0 h
  injection h with h1 h
  injection h with h2 h
  injection h with h3 h
  injection h with h4 h
  injection h with h5 h
  injection h with h6 h
  exact ⟨h0, h1, h2, h3, h4, h5, h6, h⟩
theorem so9T {α0 α1 α2 α3 α4 α5 α6 α7 α8 : Type} {a0 b0 : α0} {a1 b1 : α1} {a2 b2 : α2} {a3 b3 : α3} {a4 b4 : α4} {a5 b5 : α5} {a6 b6 : α6} {a7 b7 : α7} {a8 b8 : α8} (h : some (a0, a1, a2, a3, a4, a5, a6, a7, a8) = some (b0, b1, b2, b3, b4, b5, b6, b7, b8)) : a0 = b0 ∧ a1 = b1 ∧ a2 = b2 ∧ a3 = b3 ∧ a4 = b4 ∧ a5 = b5 ∧ a6 = b6 ∧ a7 = b7 ∧ a8 = b8 := by
  have h := Option.some.inj h
  injection h with h0 h
  injection h with h1 h
  injection h with h2 h
  injection h with h3 h
  injection h with h4 h
  injection h with h5 h
  injection h with h6 h
  injection h with h7 h
  exact ⟨h0, h1, h2, h3, h4, h5, h6, h7, h⟩
theorem so10T {α0 α1 α2 α3 α4 α5 α6 α7 α8 α9 : Type} {a0 b0 : α0} {a1 b1 : α1} {a2 b2 : α2} {a3 b3 : α3} {a4 b4 : α4} {a5 b5 : α5} {a6 b6 : α6} {a7 b7 : α7} {a8 b8 : α8} {a9 b9 : α9} (h : some (a0, a1, a2, a3, a4, a5, a6, a7, a8, a9) = some (b0, b1, b2, b3, b4, b5, b6, b7, b8, b9)) : a0 = b0 ∧ a1 = b1 ∧ a2 = b2 ∧ a3 = b3 ∧ a4 = b4 ∧ a5 = b5 ∧ a6 = b6 ∧ a7 = b7 ∧ a8 = b8 ∧ a9 = b9 := by
  have h := Option.some.inj h
  injection h with h0 h
  injection h with h1 h
  injection h with h2 h
  injection h with h3 h
  injection h with h4 h
  injection h with h5 h
  injection h with h6 h
  injection h with h7 h
  injection h with h8 h
  exact ⟨h0, h1, h2, h3, h4, h5, h6, h7, h8, h⟩
theorem so11T {α0 α1 α2 α3 α4 α5 α6 α7 α8 α9 α10 : Type} {a0 b0 : α0} {a1 b1 : α1} {a2 b2 : α2} {a3 b3 : α3} {a4 b4 : α4} {a5 b5 : α5} {a6 b6 : α6} {a7 b7 : α7} {a8 b8 : α8} {a9 b9 : α9} {a10 b10 : α10} (h : some (a0, a1, a2, a3, a4, a5, a6, a7, a8, a9, a10) = some (b0, b1, b2, b3, b4, b5, b6, b7, b8, b9, b10)) : a0 = b0 ∧ a1 = b1 ∧ a2 = b2 ∧ a3 = b3 ∧ a4 = b4 ∧ a5 = b5 ∧ a6 = b6 ∧ a7 = b7 ∧ a8 = b8 ∧ a9 = b9 ∧ a10 = b10 := by
  have h := Option.some.inj h
  injection h with h0 h
  injection h with h1 h
  injection h with h2 h
  injection h with h3 h
  injection h with h4 h
  injection h with h5 h
  injection h with h6 h
  injection h with h7 h
  injection h with h8 h
  injection h with h9 h
  exact ⟨h0, h1, h2, h3, h4, h5, h6, h7, h8, h9, h⟩
theorem inrT {α β : Type} {a b : β} (h : (some (Sum.inr a) : Option (α ⊕ β)) = some (Sum.inr b)) : some a = some b := by
  have h := Option.some.inj h
  injection h with h
  rw [h]
-- the words that any callee may take: those of the tables that a caller may hand on
def TB : List Cond := lw_tbl.filter goodWord
theorem TB_in {w : Cond} (h : w ∈ lw_tbl) (g : goodWord w = true) : w ∈ TB := List.mem_filter.mpr ⟨h, g⟩
theorem TB_good : ∀ w ∈ TB, (w.onTables && w.keeps) = true ∨ ∃ ty, w = .arrayClass ty := fun _ h => good_of_word (List.mem_filter.mp h).2
abbrev WS (y : MethodName) (b : ByteArray) (n : Nat) (ret : Option FieldType) : List Cond := Cond.code y b n ret :: TB
theorem TB_ws {y : MethodName} {b : ByteArray} {n : Nat} {ret : Option FieldType} (h : Cond.code y b n ret ∈ TB) : GoodIn TB (WS y b n ret) := fun w hw => by
  rcases List.mem_cons.mp hw with rfl | hw
  · exact ⟨h, TB_good _ h⟩
  · exact ⟨hw, TB_good _ hw⟩
theorem TB_cons {w : Cond} {ws : List Cond} (h : w ∈ TB) (g : GoodIn TB ws) : GoodIn TB (w :: ws) := fun v hv => by
  rcases List.mem_cons.mp hv with rfl | hv
  · exact ⟨h, TB_good _ h⟩
  · exact g v hv
-- what the tables say: classes, array classes, links across the nest
abbrev tyL (cT : Nat → ClassId) : List (ClassId × FieldType) := [(cT 0, .int), (cT 1, .long), (cT 2, .char), (cT 3, .boolean), (cT 4, .byte)]
def NW (U : State) : Prop := ∀ w ∈ NL, va_Nw w U
theorem NW.warm {s U : State} (hW : s.WarmedH U.vm) (h : NW s) : NW U := by
  intro w hw
  have hz := h w hw
  have hn : isNest w = true := NL_ok w hw
  unfold isNest at hn
  split at hn
  · exact va_Nw.warmF hW hz
  · exact va_Nw.warmM hW hz
  · cases hn
theorem NW.same {u U : State} (e : u.vm = U.vm) (h : NW u) : NW U := by
  intro w hw
  have hz := h w hw
  have hn : isNest w = true := NL_ok w hw
  unfold isNest at hn
  split at hn
  · exact va_Nw.same rfl e hz
  · exact va_Nw.same rfl e hz
  · cases hn
def EN (D : va_G) (cT : Nat → ClassId) (U : State) : Prop := va_K D classes (tyL cT) U ∧ NW U
theorem EN.warm {D : va_G} {cT : Nat → ClassId} {s U : State} (hW : s.WarmedH U.vm) (h : EN D cT s) : EN D cT U := ⟨va_K.moved hW.alike h.1, h.2.warm hW⟩
theorem EN.calling {D : va_G} {cT : Nat → ClassId} {U : State} (g : JFrame) (mk : MethodId) (a : Array Value) (h : EN D cT U) : EN D cT (U.calling g mk a) := ⟨va_K.moved (u := U) (U := U.calling g mk a) (Vm.Alike.refl U.vm) h.1, NW.same (u := U) rfl h.2⟩
-- a contract: from any heap that holds the cells wc the method ends with r, and the heap holds w1 in their place
def pcW (D : va_G) (cT : Nat → ClassId) (av : List Value) (wc : va_W) (sz : Nat) : Array Value → State → Prop := va_Pc av (fun U => U.heap.size = sz ∧ va_P D classes wc U.heap ∧ EN D cT U ∧ va_D (fun _ => True) wc)
def qW (D : va_G) (A : Nat → Prop) (w1 : va_W) (r : Option Value) : Array Value → State → Outcome → State → Prop := fun _ st o t => (o = .returned r ∧ va_P D classes w1 t.heap ∧ va_D A w1) ∧ va_F A st t
def Ct (l : Launch) (y : MethodName) (ws : List Cond) (rm : Room) (D : va_G) (cT : Nat → ClassId) (av : List Value) (wc : va_W) (r : Option Value) (w1 : va_W) (mc ms : Nat) : Prop :=
  ∀ sz : Nat, Met l y ws rm (pcW D cT av wc sz) (qW D (va_A wc sz) w1 r) mc ms (va_A wc sz)
theorem pcW.blind {D : va_G} {cT : Nat → ClassId} {av : List Value} {wc : va_W} {sz : Nat} : FrameBlind (pcW D cT av wc sz) := fun a U g mk q => by
  obtain ⟨q0, q1, qP, qE, qD⟩ := q
  exact ⟨q0, q1, qP, qE.calling g mk a, qD⟩
theorem pcW.pre {D : va_G} {cT : Nat → ClassId} {av : List Value} {wc : va_W} {s : State} {H : Heap} {A : Nat → Prop} (hE : EN D cT s) (hP : va_P D classes wc H) (hD : va_D A wc) : ∀ U : State, U.heap = H → s.WarmedH U.vm → pcW D cT av wc H.size av.toArray U := fun U hU hW =>
  ⟨rfl, by rw [hU], by rw [hU]; exact hP, hE.warm hW, hD.weaken (fun _ _ _ _ => trivial)⟩
theorem fm_of_map {α β : Type} {f : α → Option β} {l : List α} {w : List β} (h : l.map f = w.map some) : l.filterMap f = w := by
  have e : l.filterMap f = (l.map f).filterMap id := by rw [List.filterMap_map]; rfl
  rw [e, h, List.filterMap_map]
  simp
section CA
variable {p : Program} {l : Launch} {e : Env} {R : Room} {s : State} {m : MethodId} {args : Array Value} {below : List Frame} {meth : Method} {c : Code} {H : Heap} {locs : List Loc} {cells slots : Nat} {Q : State → Prop}
variable {pc : Nat} {ls : Array Slot} {st0 rest : List Value} {D : va_G} {cT : Nat → ClassId} {A : Nat → Prop} {H0 : Heap} {ws wc wr w1 w2 : va_W} {r : Option Value}
/-- a call that makes nothing -/
theorem ca_go {a : Array Value} (hr : va_Run p l e R s m args below meth c H locs cells slots 0 0 (F0 m pc ls st0) rest (qW D (va_A wc H.size) w1 r a) (va_A wc H.size))
    (hP : va_P D classes ws H) (hD : va_D A ws) (hS : va_S A H0 H locs) (hA : ∀ q, H0.size ≤ q → A q) (isC isR isO : List Nat) (hC : isC.map (fun i => ws[i]?) = wc.map some) (hR : isR.map (fun i => ws[i]?) = wr.map some) (hn : va_nd isR = true) (hdis : ∀ i ∈ isR, i ∉ isC) (hO : isO.map (fun i => (wr ++ w1)[i]?) = w2.map some) (hnO : va_nd isO = true)
    (kk : ∀ (H1 : Heap) (locs1 : List Loc), va_P D classes w2 H1 → va_D A w2 → va_S A H0 H1 locs1 → W p l e R s m args below meth c H1 locs1 cells slots Q (F0 m (pc + 3) ls (r.toList ++ rest))) : W p l e R s m args below meth c H locs cells slots Q (F0 m pc ls st0) := by
  intro T hT X
  obtain ⟨v, st₀, t, T', L, h0, X', hL, e1, e2, ⟨⟨hv, hp, hd⟩, hz, hk⟩, st⟩ := hr T hT X
  cases hv
  rw [h0] at hz hk
  have hF := va_free hD hS hA isC hC
  obtain ⟨hP2, hD2⟩ := va_join hP hD isC isR hC hR hn hdis hk hF hp hd
  have hP3 := hP2.sub (ws' := w2) isO (fm_of_map hO)
  have hD3 := hD2.sub (ws' := w2) isO hnO hO
  obtain ⟨t2, a1, b1⟩ := kk T'.heap (locs ++ L) (by rw [e1]; exact hP3) hD3
    ⟨Nat.le_trans hS.1 (by rw [e1]; exact hz), fun q h1 h2 => by rw [e1, hk q (Nat.lt_of_lt_of_le h1 hS.1) (fun z => h2 (hF q z))]; exact hS.2.1 q h1 h2, fun q hq => by
      rcases List.mem_append.mp hq with h | h
      · exact hS.2.2 q h
      · exact hF _ (hL q h)⟩ T' rfl X'
  exact ⟨t2, st t2 a1, b1⟩
def gV (own : String) (index : Nat) (C : String) (y : MethodName) (b : ByteArray) (n : Nat) (ret : Option FieldType) (k : Nat) : Prop := GoodIn TB (wsV own index C y (WS y b n ret)) ∧ y.cls = C ∧ y.cls ≠ "java/lang/invoke/MethodHandle" ∧ y.cls ≠ "java/lang/invoke/VarHandle" ∧ (parseMethodDescriptor y.desc).map (fun d => d.parameters.length) = some k
def gS (own : String) (index : Nat) (y : MethodName) (b : ByteArray) (n : Nat) (ret : Option FieldType) (k : Nat) : Prop := GoodIn TB (va_wsS own index y (WS y b n ret)) ∧ y.cls ≠ "java/lang/invoke/MethodHandle" ∧ y.cls ≠ "java/lang/invoke/VarHandle" ∧ (parseMethodDescriptor y.desc).map (fun d => d.parameters.length) = some k
def gSN (own : String) (index : Nat) (host : String) (y : MethodName) (b : ByteArray) (n : Nat) (ret : Option FieldType) (k : Nat) : Prop := (Cond.code y b n ret ∈ TB ∧ Cond.static y ∈ TB ∧ Cond.initialized y.cls ∈ TB ∧ Cond.methodLinkNest own index y host ∈ NL) ∧ y.cls ≠ "java/lang/invoke/MethodHandle" ∧ y.cls ≠ "java/lang/invoke/VarHandle" ∧ (parseMethodDescriptor y.desc).map (fun d => d.parameters.length) = some k
theorem gV_of {own : String} {index : Nat} {C : String} {y : MethodName} {b : ByteArray} {n : Nat} {ret : Option FieldType} {k : Nat} (h1 : Cond.methodLink own index y ∈ TB) (h2 : Cond.instanceMethod y ∈ TB) (h3 : Cond.selects C y y ∈ TB) (h4 : Cond.initialized C ∈ TB) (h5 : Cond.code y b n ret ∈ TB)
    (hd : y.cls = C ∧ y.cls ≠ "java/lang/invoke/MethodHandle" ∧ y.cls ≠ "java/lang/invoke/VarHandle" ∧ (parseMethodDescriptor y.desc).map (fun d => d.parameters.length) = some k) : gV own index C y b n ret k := ⟨TB_cons h1 (TB_cons h2 (TB_cons h3 (TB_cons h4 (TB_ws h5)))), hd⟩
theorem gS_of {own : String} {index : Nat} {y : MethodName} {b : ByteArray} {n : Nat} {ret : Option FieldType} {k : Nat} (h1 : Cond.methodLink own index y ∈ TB) (h2 : Cond.static y ∈ TB) (h4 : Cond.initialized y.cls ∈ TB) (h5 : Cond.code y b n ret ∈ TB)
    (hd : y.cls ≠ "java/lang/invoke/MethodHandle" ∧ y.cls ≠ "java/lang/invoke/VarHandle" ∧ (parseMethodDescriptor y.desc).map (fun d => d.parameters.length) = some k) : gS own index y b n ret k := ⟨TB_cons h1 (TB_cons h2 (TB_cons h4 (TB_ws h5))), hd⟩
variable {cc : ByteArray} {nL : Nat} {own C host : String} {index : Nat} {y : MethodName} {bytes : ByteArray} {maxL : Nat} {ret : Option FieldType} {rm : Room} {n : Nat} {b : Nat} {As : List Value}
theorem ca_V (S : CallFix p m c cc nL s args TB own) (hE : EN D cT s) (hM : Ct l y (WS y bytes maxL ret) rm D cT (.ref b :: As) wc r w1 0 0) (hg : gV own index C y bytes maxL ret n) (hrc : rm.cells = 0) (hrs : rm.slots = 0) (hRm : rm.frames + 1 ≤ R.frames ∧ 8 + (maxL + 11) + rm.locals ≤ R.locals)
    {ci : Nat} {qc : vw_C} (hci : classes[ci]? = some qc) (hqc : qc.1 = C) {k0 : Nat} {fs : List Value} (hk0 : wc[k0]? = some (b, .inr (ci, fs))) (hn0 : As.length = n) (hsz : ls.size = nL) (hst : st0 = As.reverse ++ .ref b :: rest) (hW : (rest.map fun v => v.category).sum ≤ 8) (hdg : decode cc pc = .ok (.invokevirtual index, 3)) (hf : cells + 0 ≤ R.cells ∧ slots + 0 ≤ R.slots)
    (hP : va_P D classes ws H) (hD : va_D A ws) (hS : va_S A H0 H locs) (hA : ∀ q, H0.size ≤ q → A q) (isC isR isO : List Nat) (hC : isC.map (fun i => ws[i]?) = wc.map some) (hR : isR.map (fun i => ws[i]?) = wr.map some) (hn : va_nd isR = true) (hdis : ∀ i ∈ isR, i ∉ isC) (hO : isO.map (fun i => (wr ++ w1)[i]?) = w2.map some) (hnO : va_nd isO = true) (hnC : va_nd isC = true)
    (kk : ∀ (H1 : Heap) (locs1 : List Loc), va_P D classes w2 H1 → va_D A w2 → va_S A H0 H1 locs1 → W p l e R s m args below meth c H1 locs1 cells slots Q (F0 m (pc + 3) ls (r.toList ++ rest))) : W p l e R s m args below meth c H locs cells slots Q (F0 m pc ls st0) := by
  subst hst
  have hPc : va_P D classes wc H := hP.sub isC (fm_of_map hC)
  have hDc : va_D A wc := hD.sub isC hnC hC
  subst hqc
  exact ca_go (va_runV (As := As) (rest := rest) S (hM H.size) (cwV n S.2.2.2.2 hg.1 rfl hrc hrs hg.2 hRm) ⟨pcW.blind, va_recv hE.1 hPc hci hk0, pcW.pre hE hPc hDc⟩ rfl hn0 hsz rfl (lv_room hW) hdg hf) hP hD hS hA isC isR isO hC hR hn hdis hO hnO kk
theorem ca_S (S : CallFix p m c cc nL s args TB own) (hE : EN D cT s) (hM : Ct l y (WS y bytes maxL ret) rm D cT As wc r w1 0 0) (hg : gS own index y bytes maxL ret n) (hrc : rm.cells = 0) (hrs : rm.slots = 0) (hRm : rm.frames + 1 ≤ R.frames ∧ 8 + (maxL + 11) + rm.locals ≤ R.locals)
    (hn0 : As.length = n) (hsz : ls.size = nL) (hst : st0 = As.reverse ++ rest) (hW : (rest.map fun v => v.category).sum ≤ 8) (hdg : decode cc pc = .ok (.invokestatic index, 3)) (hf : cells + 0 ≤ R.cells ∧ slots + 0 ≤ R.slots)
    (hP : va_P D classes ws H) (hD : va_D A ws) (hS : va_S A H0 H locs) (hA : ∀ q, H0.size ≤ q → A q) (isC isR isO : List Nat) (hC : isC.map (fun i => ws[i]?) = wc.map some) (hR : isR.map (fun i => ws[i]?) = wr.map some) (hn : va_nd isR = true) (hdis : ∀ i ∈ isR, i ∉ isC) (hO : isO.map (fun i => (wr ++ w1)[i]?) = w2.map some) (hnO : va_nd isO = true) (hnC : va_nd isC = true)
    (kk : ∀ (H1 : Heap) (locs1 : List Loc), va_P D classes w2 H1 → va_D A w2 → va_S A H0 H1 locs1 → W p l e R s m args below meth c H1 locs1 cells slots Q (F0 m (pc + 3) ls (r.toList ++ rest))) : W p l e R s m args below meth c H locs cells slots Q (F0 m pc ls st0) := by
  subst hst
  have hPc : va_P D classes wc H := hP.sub isC (fm_of_map hC)
  have hDc : va_D A wc := hD.sub isC hnC hC
  exact ca_go (va_runS (As := As) (rest := rest) S (hM H.size) (va_cwS n S.2.2.2.2 hg.1 rfl hrc hrs hg.2 hRm) ⟨pcW.blind, pcW.pre hE hPc hDc⟩ rfl hn0 hsz rfl (lv_room hW) hdg hf) hP hD hS hA isC isR isO hC hR hn hdis hO hnO kk
theorem ca_SN (S : CallFix p m c cc nL s args TB own) (hE : EN D cT s) (hM : Ct l y (WS y bytes maxL ret) rm D cT As wc r w1 0 0) (hg : gSN own index host y bytes maxL ret n) (hrc : rm.cells = 0) (hrs : rm.slots = 0) (hRm : rm.frames + 1 ≤ R.frames ∧ 8 + (maxL + 11) + rm.locals ≤ R.locals)
    (hn0 : As.length = n) (hsz : ls.size = nL) (hst : st0 = As.reverse ++ rest) (hW : (rest.map fun v => v.category).sum ≤ 8) (hdg : decode cc pc = .ok (.invokestatic index, 3)) (hf : cells + 0 ≤ R.cells ∧ slots + 0 ≤ R.slots)
    (hP : va_P D classes ws H) (hD : va_D A ws) (hS : va_S A H0 H locs) (hA : ∀ q, H0.size ≤ q → A q) (isC isR isO : List Nat) (hC : isC.map (fun i => ws[i]?) = wc.map some) (hR : isR.map (fun i => ws[i]?) = wr.map some) (hn : va_nd isR = true) (hdis : ∀ i ∈ isR, i ∉ isC) (hO : isO.map (fun i => (wr ++ w1)[i]?) = w2.map some) (hnO : va_nd isO = true) (hnC : va_nd isC = true)
    (kk : ∀ (H1 : Heap) (locs1 : List Loc), va_P D classes w2 H1 → va_D A w2 → va_S A H0 H1 locs1 → W p l e R s m args below meth c H1 locs1 cells slots Q (F0 m (pc + 3) ls (r.toList ++ rest))) : W p l e R s m args below meth c H locs cells slots Q (F0 m pc ls st0) := by
  subst hst
  have hPc : va_P D classes wc H := hP.sub isC (fm_of_map hC)
  have hDc : va_D A wc := hD.sub isC hnC hC
  obtain ⟨⟨g1, g2, g3, g4⟩, g5⟩ := hg
  have hts := S.2.2.2.2
  exact ca_go (va_runSN (As := As) (rest := rest) S (hM H.size) ⟨va_cnB n hts (TB_ws g1) rfl hrc hrs (hE.2 _ g4) (hts _ g3) g5 hRm, hts _ g2, trivial⟩ ⟨pcW.blind, pcW.pre hE hPc hDc⟩ rfl hn0 hsz rfl (lv_room hW) hdg hf) hP hD hS hA isC isR isO hC hR hn hdis hO hnO kk
theorem rt_i (S : CallFix p m c cc nL s args TB own) (hr : meth.sig.returnType = some .int) (hlocks : meth.locks = false) {v : Int32} (hP : va_P D classes w1 H) (hD : va_D A w1) (hS : va_S A s.heap H locs) (hdg : decode cc pc = .ok (.ireturn, 1)) : W p l e R s m args below meth c H locs cells slots (MQ below (qW D A w1 (some (.int v))) args s cells slots A) (F0 m pc ls [.int v]) :=
  W.iret S.1 S.2.1 hr (fun t ht hW => ⟨⟨rfl, by rw [ht]; exact hP, hD⟩, hS.F ht⟩) hS.2.2 hdg hlocks
theorem rt_z (S : CallFix p m c cc nL s args TB own) (hr : meth.sig.returnType = some .boolean) (hlocks : meth.locks = false) {v : Bool} (hP : va_P D classes w1 H) (hD : va_D A w1) (hS : va_S A s.heap H locs) (hdg : decode cc pc = .ok (.ireturn, 1)) : W p l e R s m args below meth c H locs cells slots (MQ below (qW D A w1 (some (.int (bI v)))) args s cells slots A) (F0 m pc ls [.int (bI v)]) :=
  W.zret S.1 S.2.1 hr (bI_nar v) (fun t ht hW => ⟨⟨rfl, by rw [ht]; exact hP, hD⟩, hS.F ht⟩) hS.2.2 hdg hlocks
theorem rt_j (S : CallFix p m c cc nL s args TB own) (hr : meth.sig.returnType = some .long) (hlocks : meth.locks = false) {v : Int64} (hP : va_P D classes w1 H) (hD : va_D A w1) (hS : va_S A s.heap H locs) (hdg : decode cc pc = .ok (.lreturn, 1)) : W p l e R s m args below meth c H locs cells slots (MQ below (qW D A w1 (some (.long v))) args s cells slots A) (F0 m pc ls [.long v]) :=
  W.lret S.1 S.2.1 hr (fun t ht hW => ⟨⟨rfl, by rw [ht]; exact hP, hD⟩, hS.F ht⟩) hS.2.2 hdg hlocks
theorem rt_v (S : CallFix p m c cc nL s args TB own) (hr : meth.sig.returnType = none) (hlocks : meth.locks = false) (hP : va_P D classes w1 H) (hD : va_D A w1) (hS : va_S A s.heap H locs) (hdg : decode cc pc = .ok (.return_, 1)) : W p l e R s m args below meth c H locs cells slots (MQ below (qW D A w1 none) args s cells slots A) (F0 m pc ls []) :=
  W.vret S.1 S.2.1 hr (fun t ht hW => ⟨⟨rfl, by rw [ht]; exact hP, hD⟩, hS.F ht⟩) hS.2.2 hdg hlocks
end CA
-- constructors: what they make stands in w1, whose shape Wp tells
def qI (D : va_G) (A : Nat → Prop) (Wp : va_W → Prop) : Array Value → State → Outcome → State → Prop := fun _ st o t => (o = .returned none ∧ ∃ w1, Wp w1 ∧ va_P D classes w1 t.heap ∧ va_D A w1) ∧ va_F A st t
def CtI (l : Launch) (y : MethodName) (ws : List Cond) (rm : Room) (D : va_G) (cT : Nat → ClassId) (av : List Value) (wc : va_W) (Wp : va_W → Prop) (mc ms : Nat) : Prop :=
  ∀ sz : Nat, Met l y ws rm (pcW D cT av wc sz) (qI D (va_A wc sz) Wp) mc ms (va_A wc sz)
def gIN (own : String) (index : Nat) (host : String) (y : MethodName) (b : ByteArray) (n : Nat) : Prop := (Cond.code y b n none ∈ TB ∧ Cond.instanceMethod y ∈ TB ∧ Cond.initialized y.cls ∈ TB ∧ Cond.methodLinkNest own index y host ∈ NL) ∧ y.name = "<init>" ∧ y.cls ≠ "java/lang/invoke/MethodHandle" ∧ y.cls ≠ "java/lang/invoke/VarHandle" ∧ (parseMethodDescriptor y.desc).map (fun d => d.parameters.length) = some 0
def gI (own : String) (index : Nat) (y : MethodName) (b : ByteArray) (n : Nat) : Prop := (Cond.code y b n none ∈ TB ∧ Cond.instanceMethod y ∈ TB ∧ Cond.initialized y.cls ∈ TB ∧ Cond.methodLink own index y ∈ TB) ∧ y.name = "<init>" ∧ y.cls ≠ "java/lang/invoke/MethodHandle" ∧ y.cls ≠ "java/lang/invoke/VarHandle" ∧ (parseMethodDescriptor y.desc).map (fun d => d.parameters.length) = some 0
section CI
variable {p : Program} {l : Launch} {e : Env} {R : Room} {s : State} {m : MethodId} {args : Array Value} {below : List Frame} {meth : Method} {c : Code} {H : Heap} {locs : List Loc} {cells slots : Nat} {Q : State → Prop}
variable {pc : Nat} {ls : Array Slot} {st0 rest : List Value} {D : va_G} {cT : Nat → ClassId} {A : Nat → Prop} {H0 : Heap} {ws wc wr : va_W} {Wp : va_W → Prop} {mc ms : Nat}
theorem ci_go {a : Array Value} (hr : va_Run p l e R s m args below meth c H locs cells slots mc ms (F0 m pc ls st0) rest (qI D (va_A wc H.size) Wp a) (va_A wc H.size))
    (hP : va_P D classes ws H) (hD : va_D A ws) (hS : va_S A H0 H locs) (hA : ∀ q, H0.size ≤ q → A q) (isC isR : List Nat) (hC : isC.map (fun i => ws[i]?) = wc.map some) (hR : isR.map (fun i => ws[i]?) = wr.map some) (hn : va_nd isR = true) (hdis : ∀ i ∈ isR, i ∉ isC)
    (kk : ∀ (w1 : va_W), Wp w1 → ∀ (H1 : Heap) (locs1 : List Loc), va_P D classes (wr ++ w1) H1 → va_D A (wr ++ w1) → va_S A H0 H1 locs1 → W p l e R s m args below meth c H1 locs1 (cells + mc) (slots + ms) Q (F0 m (pc + 3) ls rest)) : W p l e R s m args below meth c H locs cells slots Q (F0 m pc ls st0) := by
  intro T hT X
  obtain ⟨v, st₀, t, T', L, h0, X', hL, e1, e2, ⟨⟨hv, w1, hw1, hp, hd⟩, hz, hk⟩, st⟩ := hr T hT X
  cases hv
  rw [h0] at hz hk
  have hF := va_free hD hS hA isC hC
  obtain ⟨hP2, hD2⟩ := va_join hP hD isC isR hC hR hn hdis hk hF hp hd
  obtain ⟨t2, a1, b1⟩ := kk w1 hw1 T'.heap (locs ++ L) (by rw [e1]; exact hP2) hD2
    ⟨Nat.le_trans hS.1 (by rw [e1]; exact hz), fun q h1 h2 => by rw [e1, hk q (Nat.lt_of_lt_of_le h1 hS.1) (fun z => h2 (hF q z))]; exact hS.2.1 q h1 h2, fun q hq => by
      rcases List.mem_append.mp hq with h | h
      · exact hS.2.2 q h
      · exact hF _ (hL q h)⟩ T' rfl X'
  exact ⟨t2, st t2 a1, b1⟩
variable {cc : ByteArray} {nL : Nat} {own host : String} {index : Nat} {y : MethodName} {bytes : ByteArray} {maxL : Nat} {rm : Room} {b : Nat} {As : List Value}
theorem ca_IN (hA0 : As = []) (S : CallFix p m c cc nL s args TB own) (hE : EN D cT s) (hM : CtI l y (WS y bytes maxL none) rm D cT [.ref b] wc Wp mc ms) (hg : gIN own index host y bytes maxL) (hrc : rm.cells = mc) (hrs : rm.slots = ms) (hRm : rm.frames + 1 ≤ R.frames ∧ 8 + (maxL + 11) + rm.locals ≤ R.locals)
    (hn0 : As.length = 0) (hsz : ls.size = nL) (hst : st0 = .ref b :: rest) (hW : (rest.map fun v => v.category).sum ≤ 8) (hdg : decode cc pc = .ok (.invokespecial index, 3)) (hf : cells + mc ≤ R.cells ∧ slots + ms ≤ R.slots)
    (hP : va_P D classes ws H) (hD : va_D A ws) (hS : va_S A H0 H locs) (hA : ∀ q, H0.size ≤ q → A q) (isC isR : List Nat) (hC : isC.map (fun i => ws[i]?) = wc.map some) (hR : isR.map (fun i => ws[i]?) = wr.map some) (hn : va_nd isR = true) (hdis : ∀ i ∈ isR, i ∉ isC) (hnC : va_nd isC = true)
    (kk : ∀ (w1 : va_W), Wp w1 → ∀ (H1 : Heap) (locs1 : List Loc), va_P D classes (wr ++ w1) H1 → va_D A (wr ++ w1) → va_S A H0 H1 locs1 → W p l e R s m args below meth c H1 locs1 (cells + mc) (slots + ms) Q (F0 m (pc + 3) ls rest)) : W p l e R s m args below meth c H locs cells slots Q (F0 m pc ls st0) := by
  subst hst
  have hPc : va_P D classes wc H := hP.sub isC (fm_of_map hC)
  have hDc : va_D A wc := hD.sub isC hnC hC
  obtain ⟨⟨g1, g2, g3, g4⟩, g5, g6⟩ := hg
  have hts := S.2.2.2.2
  exact ci_go (va_runIN (As := []) (rest := rest) S (hM H.size) ⟨va_cnB 0 hts (TB_ws g1) rfl hrc hrs (hE.2 _ g4) (hts _ g3) g6 hRm, g5, hts _ g2⟩ ⟨pcW.blind, pcW.pre hE hPc hDc⟩ rfl rfl hsz rfl (lv_room hW) hdg hf) hP hD hS hA isC isR hC hR hn hdis kk
theorem ca_I (hA0 : As = []) (S : CallFix p m c cc nL s args TB own) (hE : EN D cT s) (hM : CtI l y (WS y bytes maxL none) rm D cT [.ref b] wc Wp mc ms) (hg : gI own index y bytes maxL) (hrc : rm.cells = mc) (hrs : rm.slots = ms) (hRm : rm.frames + 1 ≤ R.frames ∧ 8 + (maxL + 11) + rm.locals ≤ R.locals)
    (hn0 : As.length = 0) (hsz : ls.size = nL) (hst : st0 = .ref b :: rest) (hW : (rest.map fun v => v.category).sum ≤ 8) (hdg : decode cc pc = .ok (.invokespecial index, 3)) (hf : cells + mc ≤ R.cells ∧ slots + ms ≤ R.slots)
    (hP : va_P D classes ws H) (hD : va_D A ws) (hS : va_S A H0 H locs) (hA : ∀ q, H0.size ≤ q → A q) (isC isR : List Nat) (hC : isC.map (fun i => ws[i]?) = wc.map some) (hR : isR.map (fun i => ws[i]?) = wr.map some) (hn : va_nd isR = true) (hdis : ∀ i ∈ isR, i ∉ isC) (hnC : va_nd isC = true)
    (kk : ∀ (w1 : va_W), Wp w1 → ∀ (H1 : Heap) (locs1 : List Loc), va_P D classes (wr ++ w1) H1 → va_D A (wr ++ w1) → va_S A H0 H1 locs1 → W p l e R s m args below meth c H1 locs1 (cells + mc) (slots + ms) Q (F0 m (pc + 3) ls rest)) : W p l e R s m args below meth c H locs cells slots Q (F0 m pc ls st0) := by
  subst hst
  have hPc : va_P D classes wc H := hP.sub isC (fm_of_map hC)
  have hDc : va_D A wc := hD.sub isC hnC hC
  obtain ⟨⟨g1, g2, g3, g4⟩, g5, g6⟩ := hg
  have hts := S.2.2.2.2
  exact ci_go (va_runI (As := []) (rest := rest) S (hM H.size) (cwI 0 hts (TB_ws g1) rfl hrc hrs (hts _ g3) (hts _ g4) (hts _ g2) g5 g6 hRm) ⟨pcW.blind, pcW.pre hE hPc hDc⟩ rfl rfl hsz rfl (lv_room hW) hdg hf) hP hD hS hA isC isR hC hR hn hdis kk
theorem na_int (hexec : p.tables.exec = Jvm.exec) (hb : c.code = cc) (harr : (Cond.arrayClass .int).before args s = true) (hK : va_K D classes (tyL cT) s) (hP : va_P D classes ws H) (hD : va_D A ws) (hS : va_S A H0 H locs) (hA : ∀ q, H0.size ≤ q → A q)
    {n : Int32} {N : Nat} (hn : ¬ n < 0) (hN : n.toNatClampNeg = N) (hbytes : N * componentBytes .int ≤ 536870912) (hcells : cells + 1 ≤ R.cells) (hslots : slots + N ≤ R.slots) (hdg : decode cc pc = .ok (.newarray .int, 2))
    (kk : ∀ (q : Nat) (H1 : Heap), va_P D classes (ws ++ [(q, .inl (cT 0, N, .inl (fun _ => 0)))]) H1 → va_D A (ws ++ [(q, .inl (cT 0, N, .inl (fun _ => 0)))]) → va_S A H0 H1 locs →
      W p l e R s m args below meth c H1 locs (cells + 1) (slots + N) Q (F0 m (pc + 2) ls (.ref q :: rest))) : W p l e R s m args below meth c H locs cells slots Q (F0 m pc ls (.int n :: rest)) := by
  refine va_newa hexec hb (atype := .int) harr rfl hK hP hD hS hA (a0 := (N, .inl (fun _ => 0))) (fun _ => rfl) hn hN hbytes hcells hslots hdg (fun q cA H1 hK1 hP1 hD1 hS1 => ?_)
  have h1 : s.vm.findClass ("[" ++ FieldType.int.toString) = some cA := (hK1.2 5 (cA, .int) rfl).2
  have h2 : s.vm.findClass ("[" ++ FieldType.int.toString) = some (cT 0) := (hK.2 0 (cT 0, .int) rfl).2
  cases Option.some.inj (h1.symm.trans h2)
  exact kk q H1 hP1 hD1 hS1
theorem na_long (hexec : p.tables.exec = Jvm.exec) (hb : c.code = cc) (harr : (Cond.arrayClass .long).before args s = true) (hK : va_K D classes (tyL cT) s) (hP : va_P D classes ws H) (hD : va_D A ws) (hS : va_S A H0 H locs) (hA : ∀ q, H0.size ≤ q → A q)
    {n : Int32} {N : Nat} (hn : ¬ n < 0) (hN : n.toNatClampNeg = N) (hbytes : N * componentBytes .long ≤ 536870912) (hcells : cells + 1 ≤ R.cells) (hslots : slots + N ≤ R.slots) (hdg : decode cc pc = .ok (.newarray .long, 2))
    (kk : ∀ (q : Nat) (H1 : Heap), va_P D classes (ws ++ [(q, .inl (cT 1, N, .inr (.inl (fun _ => 0))))]) H1 → va_D A (ws ++ [(q, .inl (cT 1, N, .inr (.inl (fun _ => 0))))]) → va_S A H0 H1 locs →
      W p l e R s m args below meth c H1 locs (cells + 1) (slots + N) Q (F0 m (pc + 2) ls (.ref q :: rest))) : W p l e R s m args below meth c H locs cells slots Q (F0 m pc ls (.int n :: rest)) := by
  refine va_newa hexec hb (atype := .long) harr rfl hK hP hD hS hA (a0 := (N, .inr (.inl (fun _ => 0)))) (fun _ => rfl) hn hN hbytes hcells hslots hdg (fun q cA H1 hK1 hP1 hD1 hS1 => ?_)
  have h1 : s.vm.findClass ("[" ++ FieldType.long.toString) = some cA := (hK1.2 5 (cA, .long) rfl).2
  have h2 : s.vm.findClass ("[" ++ FieldType.long.toString) = some (cT 1) := (hK.2 1 (cT 1, .long) rfl).2
  cases Option.some.inj (h1.symm.trans h2)
  exact kk q H1 hP1 hD1 hS1
theorem na_char (hexec : p.tables.exec = Jvm.exec) (hb : c.code = cc) (harr : (Cond.arrayClass .char).before args s = true) (hK : va_K D classes (tyL cT) s) (hP : va_P D classes ws H) (hD : va_D A ws) (hS : va_S A H0 H locs) (hA : ∀ q, H0.size ≤ q → A q)
    {n : Int32} {N : Nat} (hn : ¬ n < 0) (hN : n.toNatClampNeg = N) (hbytes : N * componentBytes .char ≤ 536870912) (hcells : cells + 1 ≤ R.cells) (hslots : slots + N ≤ R.slots) (hdg : decode cc pc = .ok (.newarray .char, 2))
    (kk : ∀ (q : Nat) (H1 : Heap), va_P D classes (ws ++ [(q, .inl (cT 2, N, .inl (fun _ => 0)))]) H1 → va_D A (ws ++ [(q, .inl (cT 2, N, .inl (fun _ => 0)))]) → va_S A H0 H1 locs →
      W p l e R s m args below meth c H1 locs (cells + 1) (slots + N) Q (F0 m (pc + 2) ls (.ref q :: rest))) : W p l e R s m args below meth c H locs cells slots Q (F0 m pc ls (.int n :: rest)) := by
  refine va_newa hexec hb (atype := .char) harr rfl hK hP hD hS hA (a0 := (N, .inl (fun _ => 0))) (fun _ => rfl) hn hN hbytes hcells hslots hdg (fun q cA H1 hK1 hP1 hD1 hS1 => ?_)
  have h1 : s.vm.findClass ("[" ++ FieldType.char.toString) = some cA := (hK1.2 5 (cA, .char) rfl).2
  have h2 : s.vm.findClass ("[" ++ FieldType.char.toString) = some (cT 2) := (hK.2 2 (cT 2, .char) rfl).2
  cases Option.some.inj (h1.symm.trans h2)
  exact kk q H1 hP1 hD1 hS1
theorem na_boolean (hexec : p.tables.exec = Jvm.exec) (hb : c.code = cc) (harr : (Cond.arrayClass .boolean).before args s = true) (hK : va_K D classes (tyL cT) s) (hP : va_P D classes ws H) (hD : va_D A ws) (hS : va_S A H0 H locs) (hA : ∀ q, H0.size ≤ q → A q)
    {n : Int32} {N : Nat} (hn : ¬ n < 0) (hN : n.toNatClampNeg = N) (hbytes : N * componentBytes .boolean ≤ 536870912) (hcells : cells + 1 ≤ R.cells) (hslots : slots + N ≤ R.slots) (hdg : decode cc pc = .ok (.newarray .boolean, 2))
    (kk : ∀ (q : Nat) (H1 : Heap), va_P D classes (ws ++ [(q, .inl (cT 3, N, .inl (fun _ => 0)))]) H1 → va_D A (ws ++ [(q, .inl (cT 3, N, .inl (fun _ => 0)))]) → va_S A H0 H1 locs →
      W p l e R s m args below meth c H1 locs (cells + 1) (slots + N) Q (F0 m (pc + 2) ls (.ref q :: rest))) : W p l e R s m args below meth c H locs cells slots Q (F0 m pc ls (.int n :: rest)) := by
  refine va_newa hexec hb (atype := .boolean) harr rfl hK hP hD hS hA (a0 := (N, .inl (fun _ => 0))) (fun _ => rfl) hn hN hbytes hcells hslots hdg (fun q cA H1 hK1 hP1 hD1 hS1 => ?_)
  have h1 : s.vm.findClass ("[" ++ FieldType.boolean.toString) = some cA := (hK1.2 5 (cA, .boolean) rfl).2
  have h2 : s.vm.findClass ("[" ++ FieldType.boolean.toString) = some (cT 3) := (hK.2 3 (cT 3, .boolean) rfl).2
  cases Option.some.inj (h1.symm.trans h2)
  exact kk q H1 hP1 hD1 hS1
theorem na_byte (hexec : p.tables.exec = Jvm.exec) (hb : c.code = cc) (harr : (Cond.arrayClass .byte).before args s = true) (hK : va_K D classes (tyL cT) s) (hP : va_P D classes ws H) (hD : va_D A ws) (hS : va_S A H0 H locs) (hA : ∀ q, H0.size ≤ q → A q)
    {n : Int32} {N : Nat} (hn : ¬ n < 0) (hN : n.toNatClampNeg = N) (hbytes : N * componentBytes .byte ≤ 536870912) (hcells : cells + 1 ≤ R.cells) (hslots : slots + N ≤ R.slots) (hdg : decode cc pc = .ok (.newarray .byte, 2))
    (kk : ∀ (q : Nat) (H1 : Heap), va_P D classes (ws ++ [(q, .inl (cT 4, N, .inl (fun _ => 0)))]) H1 → va_D A (ws ++ [(q, .inl (cT 4, N, .inl (fun _ => 0)))]) → va_S A H0 H1 locs →
      W p l e R s m args below meth c H1 locs (cells + 1) (slots + N) Q (F0 m (pc + 2) ls (.ref q :: rest))) : W p l e R s m args below meth c H locs cells slots Q (F0 m pc ls (.int n :: rest)) := by
  refine va_newa hexec hb (atype := .byte) harr rfl hK hP hD hS hA (a0 := (N, .inl (fun _ => 0))) (fun _ => rfl) hn hN hbytes hcells hslots hdg (fun q cA H1 hK1 hP1 hD1 hS1 => ?_)
  have h1 : s.vm.findClass ("[" ++ FieldType.byte.toString) = some cA := (hK1.2 5 (cA, .byte) rfl).2
  have h2 : s.vm.findClass ("[" ++ FieldType.byte.toString) = some (cT 4) := (hK.2 4 (cT 4, .byte) rfl).2
  cases Option.some.inj (h1.symm.trans h2)
  exact kk q H1 hP1 hD1 hS1
end CI
theorem tb1 {w : Cond} {i : Nat} (h : tables_1_1[i]? = some w) : w ∈ lw_tbl := List.mem_append_right _ (List.mem_append_left _ (List.mem_of_getElem? h))
theorem tb2 {w : Cond} {i : Nat} (h : tables_1_2[i]? = some w) : w ∈ lw_tbl := List.mem_append_right _ (List.mem_append_right _ (List.mem_append_left _ (List.mem_of_getElem? h)))
theorem tb3 {w : Cond} {i : Nat} (h : tables_1_3[i]? = some w) : w ∈ lw_tbl := List.mem_append_right _ (List.mem_append_right _ (List.mem_append_right _ (List.mem_of_getElem? h)))

