def SL : List (String × Nat × String) := [(R_Or, 96, "no such code, land or cents"), (R_Or, 106, "there are 12 parts"), (R_Or, 122, "no such lands, or one land"), (R_Or, 131, "no such code or price"), (R_Or, 141, "no such price or side"), (R_Or, 145, "a share of a price of 0"), (R_Or, 167, "no such kind or days"), (R_Or, 170, "there are 20 proofs"), (R_Or, 175, "no such proof, value or day"), (R_Or, 181, "no such land")]
theorem sl_0 : (R_Or, 96, "no such code, land or cents") ∈ SL := List.mem_of_getElem? (i := 0) rfl
theorem sl_1 : (R_Or, 106, "there are 12 parts") ∈ SL := List.mem_of_getElem? (i := 1) rfl
theorem sl_2 : (R_Or, 122, "no such lands, or one land") ∈ SL := List.mem_of_getElem? (i := 2) rfl
theorem sl_3 : (R_Or, 131, "no such code or price") ∈ SL := List.mem_of_getElem? (i := 3) rfl
theorem sl_4 : (R_Or, 141, "no such price or side") ∈ SL := List.mem_of_getElem? (i := 4) rfl
theorem sl_5 : (R_Or, 145, "a share of a price of 0") ∈ SL := List.mem_of_getElem? (i := 5) rfl
theorem sl_6 : (R_Or, 167, "no such kind or days") ∈ SL := List.mem_of_getElem? (i := 6) rfl
theorem sl_7 : (R_Or, 170, "there are 20 proofs") ∈ SL := List.mem_of_getElem? (i := 7) rfl
theorem sl_8 : (R_Or, 175, "no such proof, value or day") ∈ SL := List.mem_of_getElem? (i := 8) rfl
theorem sl_9 : (R_Or, 181, "no such land") ∈ SL := List.mem_of_getElem? (i := 9) rfl
-- what a method that throws asks of its start
def XL : List Cond := lw_tbl.filter (fun w => !goodWord w && xw w)
theorem XL_xw : ∀ w ∈ XL, xw w = true := fun w h => by
  have h1 := (List.mem_filter.mp h).2
  simp only [Bool.and_eq_true] at h1
  exact h1.2
def exn (k : Nat) : String := match k with
  | 0 => "java/lang/IllegalArgumentException"
  | 1 => "java/lang/IllegalStateException"
  | _ => "java/lang/ArithmeticException"
theorem inlT {α β : Type} {a b : α} (h : (some (Sum.inl a) : Option (α ⊕ β)) = some (Sum.inl b)) : a = b := by
  have h := Option.some.inj h
  injection h
def TE (A : Nat → Prop) (U : State) : Prop := (∀ w ∈ XL, w.before #[] U = true) ∧ ex_S "UNASSIGNED_STACK" Bundle.steD A U U.heap ∧ ex_S "SUPPRESSED_SENTINEL" Bundle.listD A U U.heap ∧ ∀ z ∈ SL, ∃ a, vk_R z.1 z.2.1 z.2.2 a U
def ow_in (w : Cond) : Bool := decide (w ∈ TB) || (decide (w ∈ XL) || (decide (w = .isRef (.static Bundle.tN "UNASSIGNED_STACK" Bundle.steD)) || (decide (w = .isRef (.static Bundle.tN "SUPPRESSED_SENTINEL" Bundle.listD)) || (decide (w = .laysStatic Bundle.tN "UNASSIGNED_STACK" Bundle.steD) || decide (w = .laysStatic Bundle.tN "SUPPRESSED_SENTINEL" Bundle.listD)))))
theorem ow_all {A : Nat → Prop} {s : State} {args : Array Value} (hts : ∀ w ∈ TB, w.before args s = true) (hT : TE A s) {L : List Cond} (h : L.all ow_in = true) : ∀ w ∈ L, w.before args s = true := by
  intro w hw
  have h1 := List.all_eq_true.mp h w hw
  simp only [ow_in, Bool.or_eq_true, decide_eq_true_eq] at h1
  rcases h1 with h1 | h1 | h1 | h1 | h1 | h1
  · exact hts w h1
  · have hx := XL_xw w h1
    simp only [xw, Bool.and_eq_true] at hx
    exact va_tabs hx.1 rfl (hT.1 w h1)
  · rw [h1]; exact hT.2.1.isr
  · rw [h1]; exact hT.2.2.1.isr
  · rw [h1]; exact hT.2.1.lays
  · rw [h1]; exact hT.2.2.1.lays
def pcX (D : va_G) (cT : Nat → ClassId) (av : List Value) (wc : va_W) (sz : Nat) : Array Value → State → Prop := va_Pc av (fun U => U.heap.size = sz ∧ va_P D classes wc U.heap ∧ EN D cT U ∧ va_D (fun _ => True) wc ∧ TE (va_A wc sz) U)
def CtX (l : Launch) (y : MethodName) (ws : List Cond) (rm : Room) (D : va_G) (cT : Nat → ClassId) (av : List Value) (wc : va_W) (E : String) (mc ms : Nat) : Prop :=
  ∀ sz : Nat, MetX l y ws rm (pcX D cT av wc sz) E mc ms
theorem TE.calling {A : Nat → Prop} {U : State} (g : JFrame) (mk : MethodId) (a : Array Value) (h : TE A U) : TE A (U.calling g mk a) := by
  obtain ⟨h1, h2, h3, h4⟩ := h
  refine ⟨fun w hw => ?_, ex_S.moved (u := U) (U := U.calling g mk a) (Vm.Alike.refl U.vm) h2, ex_S.moved (u := U) (U := U.calling g mk a) (Vm.Alike.refl U.vm) h3, fun z hz => ?_⟩
  · have hx := XL_xw w hw
    simp only [xw, Bool.and_eq_true] at hx
    exact va_tabs (u := U) (U := U.calling g mk a) hx.1 rfl (h1 w hw)
  · obtain ⟨b, hb⟩ := h4 z hz
    exact ⟨b, vk_R.same (u := U) rfl hb⟩
theorem TE.pre {A B : Nat → Prop} {s U : State} {H : Heap} {locs : List Loc} (h : TE A s) (hS : va_S A s.heap H locs) (hAB : ∀ q, B q → A q) (hU : U.heap = H) (hW : s.WarmedH U.vm) : TE B U := by
  obtain ⟨h1, h2, h3, h4⟩ := h
  refine ⟨fun w hw => xw_warm (XL_xw w hw) hW (h1 w hw), ?_, ?_, fun z hz => ?_⟩
  · rw [hU]; exact ((h2.kept hS.2.1).narrow hAB).moved hW.alike
  · rw [hU]; exact ((h3.kept hS.2.1).narrow hAB).moved hW.alike
  · obtain ⟨b, hb⟩ := h4 z hz
    exact ⟨b, hb.warm hW⟩
theorem pcX.blind {D : va_G} {cT : Nat → ClassId} {av : List Value} {wc : va_W} {sz : Nat} : FrameBlind (pcX D cT av wc sz) := fun a U g mk q => by
  obtain ⟨q0, q1, qP, qE, qD, qT⟩ := q
  exact ⟨q0, q1, qP, qE.calling g mk a, qD, qT.calling g mk a⟩
section CP
variable {p : Program} {l : Launch} {e : Env} {R : Room} {s : State} {m : MethodId} {args : Array Value} {below : List Frame} {meth : Method} {c : Code} {H : Heap} {locs : List Loc} {cells slots : Nat} {Q : State → Prop}
variable {pc : Nat} {ls : Array Slot} {st0 rest : List Value} {D : va_G} {cT : Nat → ClassId} {ws : va_W} {r : Option Value}
variable {cc : ByteArray} {nL : Nat} {own : String} {index : Nat} {y : MethodName} {bytes : ByteArray} {maxL : Nat} {ret : Option FieldType} {rm : Room} {n : Nat} {As : List Value}
/-- a static call that touches nothing -/
theorem cp_S (S : CallFix p m c cc nL s args TB own) (hE : EN D cT s) (hM : Ct l y (WS y bytes maxL ret) rm D cT As [] r [] 0 0) (hg : gS own index y bytes maxL ret n) (hrc : rm.cells = 0) (hrs : rm.slots = 0) (hRm : rm.frames + 1 ≤ R.frames ∧ 8 + (maxL + 11) + rm.locals ≤ R.locals)
    (hn0 : As.length = n) (hsz : ls.size = nL) (hst : st0 = As.reverse ++ rest) (hW : (rest.map fun v => v.category).sum ≤ 8) (hdg : decode cc pc = .ok (.invokestatic index, 3)) (hf : cells + 0 ≤ R.cells ∧ slots + 0 ≤ R.slots)
    (hP : va_P D classes ws H) (hHs : s.heap.size ≤ H.size)
    (kk : ∀ (H1 : Heap), va_P D classes ws H1 → s.heap.size ≤ H1.size → W p l e R s m args below meth c H1 locs cells slots Q (F0 m (pc + 3) ls (r.toList ++ rest))) : W p l e R s m args below meth c H locs cells slots Q (F0 m pc ls st0) := by
  subst hst
  have hP0 : va_P D classes [] H := fun k q h => by simp at h
  have hD0 : va_D (fun _ => True) [] := ⟨fun i j p q h => by simp at h, fun k q h => by simp at h⟩
  have hr := va_runS (l := l) (e := e) (below := below) (meth := meth) (locs := locs) (cells := cells) (slots := slots) (g := F0 m pc ls (As.reverse ++ rest)) (As := As) (rest := rest) S (hM H.size) (va_cwS n S.2.2.2.2 hg.1 rfl hrc hrs hg.2 hRm) ⟨pcW.blind, pcW.pre hE hP0 hD0⟩ rfl hn0 hsz rfl (lv_room hW) hdg hf
  intro T hT X
  obtain ⟨v, st₀, t, T', L, h0, X', hL, e1, e2, ⟨⟨hv, -, -⟩, hz, hk⟩, st⟩ := hr T hT X
  cases hv
  rw [h0] at hz hk
  have hno : ∀ q, va_A [] H.size q → H.size ≤ q := fun q h => by
    rcases h with ⟨k, e, h⟩ | h
    · simp at h
    · exact h
  have X2 : Stand p l e R s m args below meth c T' locs cells slots := Stand.forget X' (fun q h => Nat.le_trans hHs (hno _ (hL q h)))
  obtain ⟨t2, a1, b1⟩ := kk T'.heap (hP.kept (fun k q hq => by rw [e1]; exact hk q.1 ((hP k q hq).lt) (fun z => absurd (hno _ z) (Nat.not_le.mpr ((hP k q hq).lt))))) (by rw [e1]; exact Nat.le_trans hHs hz) T' rfl X2
  exact ⟨t2, st t2 a1, b1⟩
end CP
theorem oa_0 : (Bundle.ownAtoms R_Or 98 "java/lang/IllegalArgumentException" ["java/lang/RuntimeException", "java/lang/Exception"]).all ow_in = true := by decide +kernel
theorem oa_1 : (Bundle.ownAtoms R_Or 108 "java/lang/IllegalStateException" ["java/lang/RuntimeException", "java/lang/Exception"]).all ow_in = true := by decide +kernel
theorem oa_2 : (Bundle.ownAtoms R_Or 147 "java/lang/ArithmeticException" ["java/lang/RuntimeException", "java/lang/Exception"]).all ow_in = true := by decide +kernel
