theorem iw_c2c9bcb9 : (Cond.classLink R_Law 13 "java/lang/IllegalArgumentException") ∈ TB := TB_in (tb2 (i := 14) rfl) rfl
theorem iw_cd8e4cac : (Cond.classLink R_Law 15 "java/lang/IllegalStateException") ∈ TB := TB_in (tb2 (i := 15) rfl) rfl
theorem iw_1406e3bb : (Cond.classLink R_Law 29 "java/lang/ArithmeticException") ∈ TB := TB_in (tb2 (i := 188) rfl) rfl
theorem iw_5f42ee0b : (Cond.code y_Or_part b_Or_part 5 (some .int)) ∈ TB := TB_in (tb2 (i := 19) rfl) rfl
theorem iw_ea6e8853 : (Cond.methodLink R_Law 7 y_Or_part) ∈ TB := TB_in (tb2 (i := 16) rfl) rfl
theorem iw_16562bbf : (Cond.instanceMethod y_Or_part) ∈ TB := TB_in (tb2 (i := 17) rfl) rfl
theorem iw_dd2f7829 : (Cond.selects R_Or y_Or_part y_Or_part) ∈ TB := TB_in (tb2 (i := 18) rfl) rfl
theorem iw_94d47633 : (Cond.code y_Or_join b_Or_join 3 (some .int)) ∈ TB := TB_in (tb2 (i := 125) rfl) rfl
theorem iw_262fe315 : (Cond.methodLink R_Law 17 y_Or_join) ∈ TB := TB_in (tb2 (i := 122) rfl) rfl
theorem iw_1a277595 : (Cond.instanceMethod y_Or_join) ∈ TB := TB_in (tb2 (i := 123) rfl) rfl
theorem iw_6bb71b15 : (Cond.selects R_Or y_Or_join y_Or_join) ∈ TB := TB_in (tb2 (i := 124) rfl) rfl
theorem iw_baaf6f23 : (Cond.code y_Or_verdict b_Or_verdict 5 (some .int)) ∈ TB := TB_in (tb2 (i := 137) rfl) rfl
theorem iw_a850a2a5 : (Cond.methodLink R_Law 21 y_Or_verdict) ∈ TB := TB_in (tb2 (i := 134) rfl) rfl
theorem iw_a96d12f2 : (Cond.instanceMethod y_Or_verdict) ∈ TB := TB_in (tb2 (i := 135) rfl) rfl
theorem iw_57f1b679 : (Cond.selects R_Or y_Or_verdict y_Or_verdict) ∈ TB := TB_in (tb2 (i := 136) rfl) rfl
theorem iw_596a01a0 : (Cond.code y_Or_share b_Or_share 8 (some .long)) ∈ TB := TB_in (tb2 (i := 192) rfl) rfl
theorem iw_accb752e : (Cond.methodLink R_Law 25 y_Or_share) ∈ TB := TB_in (tb2 (i := 189) rfl) rfl
theorem iw_77d08efc : (Cond.instanceMethod y_Or_share) ∈ TB := TB_in (tb2 (i := 190) rfl) rfl
theorem iw_2e5ec655 : (Cond.selects R_Or y_Or_share y_Or_share) ∈ TB := TB_in (tb2 (i := 191) rfl) rfl
theorem iw_60e4ad7f : (Cond.code y_Or_proof b_Or_proof 4 (some .int)) ∈ TB := TB_in (tb2 (i := 222) rfl) rfl
theorem iw_8f01e2cf : (Cond.methodLink R_Law 31 y_Or_proof) ∈ TB := TB_in (tb2 (i := 219) rfl) rfl
theorem iw_14d0cfed : (Cond.instanceMethod y_Or_proof) ∈ TB := TB_in (tb2 (i := 220) rfl) rfl
theorem iw_605b6586 : (Cond.selects R_Or y_Or_proof y_Or_proof) ∈ TB := TB_in (tb2 (i := 221) rfl) rfl
theorem iw_1a532549 : (Cond.code y_Or_good b_Or_good 5 (some .boolean)) ∈ TB := TB_in (tb2 (i := 239) rfl) rfl
theorem iw_12203432 : (Cond.methodLink R_Law 35 y_Or_good) ∈ TB := TB_in (tb2 (i := 236) rfl) rfl
theorem iw_341fd5eb : (Cond.instanceMethod y_Or_good) ∈ TB := TB_in (tb2 (i := 237) rfl) rfl
theorem iw_169ef8ca : (Cond.selects R_Or y_Or_good y_Or_good) ∈ TB := TB_in (tb2 (i := 238) rfl) rfl
theorem iw_3144791b : (Cond.code y_Or_own b_Or_own 2 (some .boolean)) ∈ TB := TB_in (tb3 (i := 12) rfl) rfl
theorem iw_f94d2752 : (Cond.methodLink R_Law 39 y_Or_own) ∈ TB := TB_in (tb3 (i := 9) rfl) rfl
theorem iw_25289461 : (Cond.instanceMethod y_Or_own) ∈ TB := TB_in (tb3 (i := 10) rfl) rfl
theorem iw_f7268205 : (Cond.selects R_Or y_Or_own y_Or_own) ∈ TB := TB_in (tb3 (i := 11) rfl) rfl
def NCL : List (String × String) := [("java/lang/IllegalStateException", "java/lang/IllegalArgumentException"), ("java/lang/ArithmeticException", "java/lang/IllegalArgumentException")]
theorem nc_0 : ("java/lang/IllegalStateException", "java/lang/IllegalArgumentException") ∈ NCL := List.mem_of_getElem? (i := 0) rfl
theorem nc_1 : ("java/lang/ArithmeticException", "java/lang/IllegalArgumentException") ∈ NCL := List.mem_of_getElem? (i := 1) rfl
-- helpers of the law: static methods with a table of handlers
abbrev WH (y : MethodName) (b : ByteArray) (n : Nat) (ret : Option FieldType) (hh : List (Nat × Nat × Nat × Nat)) : List Cond := Cond.codeWith y b n ret hh :: TB
def NC (U : State) : Prop := ∀ a b, (a, b) ∈ NCL → va_Nc a b U
def pcH (D : va_G) (cT : Nat → ClassId) (av : List Value) (wc : va_W) (sz : Nat) : Array Value → State → Prop := va_Pc av (fun U => U.heap.size = sz ∧ va_P D classes wc U.heap ∧ EN D cT U ∧ va_D (fun _ => True) wc ∧ TE (va_A wc sz) U ∧ NC U)
def CtH (l : Launch) (y : MethodName) (ws : List Cond) (rm : Room) (D : va_G) (cT : Nat → ClassId) (av : List Value) (wc : va_W) (r : Option Value) (w1 : va_W) (mc ms : Nat) : Prop :=
  ∀ sz : Nat, Met l y ws rm (pcH D cT av wc sz) (qW D (va_A wc sz) w1 r) mc ms (va_A wc sz)
theorem NC.warm {s U : State} (hW : s.WarmedH U.vm) (h : NC s) : NC U := fun a b hab => (h a b hab).moved hW.alike
theorem pcH.blind {D : va_G} {cT : Nat → ClassId} {av : List Value} {wc : va_W} {sz : Nat} : FrameBlind (pcH D cT av wc sz) := fun a U g mk q => by
  obtain ⟨q0, q1, qP, qE, qD, qT, qN⟩ := q
  exact ⟨q0, q1, qP, qE.calling g mk a, qD, qT.calling g mk a, fun a' b' hab => va_Nc.moved (u := U) (U := U.calling g mk a) (Vm.Alike.refl U.vm) (qN a' b' hab)⟩
theorem tab_of {p : Program} {l : Launch} {y : MethodName} {S : Spec} {cc bytes : ByteArray} {maxL maxL' : Nat} {ret ret' : Option FieldType} {e : Env} {s s₁ : State} {m : MethodId} {args args' : Array Value} {below : List Frame} {meth : Method} {c : Code} {hh : List (Nat × Nat × Nat × Nat)}
    (B : BodyLoose p l y S cc maxL ret e s m args below meth c s₁) (h : (Cond.codeWith y bytes maxL' ret' hh).before args' s = true) : c.exceptionTable.toList = hh.map (fun h => ⟨h.1, h.2.1, h.2.2.1, h.2.2.2⟩) := by
  obtain ⟨m9, meth9, c9, hn9, h1, h2, -, -, h6, -⟩ := Cond.codeWith_spec h
  cases Option.some.inj (hn9.symm.trans B.named)
  cases Option.some.inj (h1.symm.trans B.method)
  cases Option.some.inj (h2.symm.trans (Stand.of_body B).code)
  rw [← h6, List.map_map]
  exact (List.map_id _).symm
section TRY
variable {p : Program} {l : Launch} {e : Env} {R : Room} {s : State} {m : MethodId} {args : Array Value} {below : List Frame} {meth : Method} {c : Code} {H : Heap} {locs : List Loc} {cells slots : Nat} {Q : State → Prop}
variable {pc : Nat} {ls : Array Slot} {st0 rest : List Value} {D : va_G} {cT : Nat → ClassId} {A : Nat → Prop} {ws wc wr w1 w2 : va_W} {r : Option Value}
variable {cc : ByteArray} {nL : Nat} {own C : String} {index : Nat} {y : MethodName} {bytes : ByteArray} {maxL : Nat} {ret : Option FieldType} {rm : Room} {n mc ms : Nat} {b : Nat} {As : List Value} {E : String}
theorem ex_tryV (S : CallFix p m c cc nL s args TB own) (hE : EN D cT s) (hTE : TE A s) (hM : CtX l y (WS y bytes maxL ret) rm D cT (.ref b :: As) wc E mc ms) (hg : gV own index C y bytes maxL ret n) (hrc : rm.cells = mc) (hrs : rm.slots = ms) (hRm : rm.frames + 1 ≤ R.frames ∧ 8 + (maxL + 11) + rm.locals ≤ R.locals)
    {ci : Nat} {qc : vw_C} (hci : classes[ci]? = some qc) (hqc : qc.1 = C) {k0 : Nat} {fs : List Value} (hk0 : wc[k0]? = some (b, .inr (ci, fs))) (hn0 : As.length = n) (hsz : ls.size = nL) (hst : st0 = As.reverse ++ .ref b :: rest) (hW : (rest.map fun v => v.category).sum ≤ 8) (hdg : decode cc pc = .ok (.invokevirtual index, 3)) (hf : cells + mc ≤ R.cells ∧ slots + ms ≤ R.slots)
    (hP : va_P D classes ws H) (hD : va_D A ws) (hS : va_S A s.heap H locs) (hA : ∀ q, s.heap.size ≤ q → A q) (isC : List Nat) (hC : isC.map (fun i => ws[i]?) = wc.map some) (hnC : va_nd isC = true)
    (kk : ∀ (H1 : Heap) (q : Addr) (ce : Cell), va_P D classes ws H1 → va_S A s.heap H1 locs → H1[q]? = some ce → ce.vm = .none → s.vm.findClass E = some ce.cls → WX p l e R s m args below meth c H1 locs (cells + mc) (slots + ms) Q (F0 m pc ls rest) q) : W p l e R s m args below meth c H locs cells slots Q (F0 m pc ls st0) := by
  have hPc : va_P D classes wc H := hP.sub isC (fm_of_map hC)
  have hDc : va_D A wc := hD.sub isC hnC hC
  have hF := va_free hD hS hA isC hC
  subst hqc
  refine ex_runV (As := As) (rest := rest) S (hM H.size) (cwV n S.2.2.2.2 hg.1 rfl hrc hrs hg.2 hRm) ⟨pcX.blind, va_recv hE.1 hPc hci hk0, fun U hU hW => ⟨rfl, by rw [hU], by rw [hU]; exact hPc, hE.warm hW, hDc.weaken (fun _ _ _ _ => trivial), hTE.pre hS hF hU hW⟩⟩ hn0 hsz hst hW hdg hf (fun H1 q ce hz hq h1 h2 h3 => ?_)
  exact kk H1 q ce (hP.kept (fun k x hx => hq x.1 ((hP k x hx).lt))) ⟨Nat.le_trans hS.1 hz, fun x g1 g2 => (hq x (Nat.lt_of_lt_of_le g1 hS.1)).trans (hS.2.1 x g1 g2), hS.2.2⟩ h1 h2 h3
def gH (own : String) (index : Nat) (y : MethodName) (b : ByteArray) (n : Nat) (ret : Option FieldType) (hh : List (Nat × Nat × Nat × Nat)) (k : Nat) : Prop := (Cond.codeWith y b n ret hh ∈ TB ∧ Cond.methodLink own index y ∈ TB ∧ Cond.static y ∈ TB ∧ Cond.initialized y.cls ∈ TB) ∧ (y.cls ≠ "java/lang/invoke/MethodHandle" ∧ y.cls ≠ "java/lang/invoke/VarHandle") ∧ (parseMethodDescriptor y.desc).map (fun d => d.parameters.length) = some k
/-- the law calls a helper -/
theorem cl_H {hh : List (Nat × Nat × Nat × Nat)} (S : CallFix p m c cc nL s args TB own) (hE : EN D cT s) (hTE : TE A s) (hNc : NC s) (hM : CtH l y (WH y bytes maxL ret hh) rm D cT As wc r w1 mc ms) (hg : gH own index y bytes maxL ret hh n) (hrc : rm.cells = mc) (hrs : rm.slots = ms) (hRm : rm.frames + 1 ≤ R.frames ∧ 8 + (maxL + 11) + rm.locals ≤ R.locals)
    (hn0 : As.length = n) (hsz : ls.size = nL) (hst : st0 = As.reverse ++ rest) (hW : (rest.map fun v => v.category).sum ≤ 8) (hdg : decode cc pc = .ok (.invokestatic index, 3)) (hf : cells + mc ≤ R.cells ∧ slots + ms ≤ R.slots)
    (hP : va_P D classes ws H) (hD : va_D A ws) (hS : va_S A s.heap H locs) (hA : ∀ q, s.heap.size ≤ q → A q) (isC isR isO : List Nat) (hC : isC.map (fun i => ws[i]?) = wc.map some) (hR : isR.map (fun i => ws[i]?) = wr.map some) (hn : va_nd isR = true) (hdis : ∀ i ∈ isR, i ∉ isC) (hO : isO.map (fun i => (wr ++ w1)[i]?) = w2.map some) (hnO : va_nd isO = true) (hnC : va_nd isC = true)
    (kk : ∀ (H1 : Heap) (locs1 : List Loc), va_P D classes w2 H1 → va_D A w2 → va_S A s.heap H1 locs1 → W p l e R s m args below meth c H1 locs1 (cells + mc) (slots + ms) Q (F0 m (pc + 3) ls (r.toList ++ rest))) : W p l e R s m args below meth c H locs cells slots Q (F0 m pc ls st0) := by
  subst hst
  obtain ⟨hx, hb, hml, hown, hts⟩ := S
  obtain ⟨⟨g1, g2, g3, g4⟩, hy, g6⟩ := hg
  have hPc : va_P D classes wc H := hP.sub isC (fm_of_map hC)
  have hDc : va_D A wc := hD.sub isC hnC hC
  have hF := va_free hD hS hA isC hC
  have hG : GoodIn TB (WH y bytes maxL ret hh) := fun w hw => by
    rcases List.mem_cons.mp hw with rfl | hw
    · exact ⟨g1, TB_good _ g1⟩
    · exact ⟨hw, TB_good _ hw⟩
  have hws := pay_in hts hG
  have hini := hts _ g4
  have hK : Back l R p e below s args y 3 8 (PreOf R mc ms (pcH D cT As wc H.size)) (PostOf (qW D (va_A wc H.size) w1 r) mc ms (va_A wc H.size)) :=
    va_backW (hh := hh) (bytes := bytes) (maxL := maxL) (ret := ret) (hM H.size) pcH.blind hrc hrs hRm.1 hRm.2 hws List.mem_cons_self (fun a' U hW => word_at hW (Or.inl (by first | rfl | simp [Cond.onTables, Cond.keeps, Cond.steady])) hini)
  intro T hT X
  obtain ⟨mk, methM, cM, hnamed, hmethM, -, -, -, -, -, -, hsigM⟩ := Cond.codeWith_spec (hts _ g1)
  have hstatic : methM.isStatic = true := Cond.static_spec hnamed hmethM (hts _ g3)
  obtain ⟨kP, hkP, -⟩ := className_of_methodNamed hnamed
  have hinitP : kP.init = .initialized := Cond.initialized_spec (findClass_of_methodNamed hnamed) hkP hini
  have hlen : As.length = methM.sig.parameters.length := by
    rw [hn0]
    rw [hsigM] at g6
    exact (Option.some.inj g6).symm
  have hdg' : decode c.code pc = .ok (.invokestatic index, 3) := by rw [hb]; exact hdg
  obtain ⟨vm₁, X₁, hstep₁⟩ := X.invokestatic hx hown (hts _ g2) hnamed hmethM hstatic hkP hinitP hy (g := F0 m pc ls (As.reverse ++ rest)) rfl (argsL := As) (rest := rest) hlen rfl hdg'
  have hW₁ := X₁.warmed
  obtain ⟨v, B, X', ⟨g', mk', t, L, e1, e2, ⟨⟨hv, hp, hd⟩, hz, hk⟩, h1, hL, h2, h3⟩, hsteps⟩ := hK m meth c ⟨T.setVm vm₁, locs, cells, slots⟩ (F0 m pc ls rest) (.invokestatic index) mk As.toArray X₁ rfl (hsz.trans hml.symm) hdg' (lv_room hW) (X₁.named hnamed)
    ⟨hf.1, hf.2, rfl, by show (T.setVm vm₁).heap.size = H.size; rw [← hT]; rfl, by show va_P D classes wc T.heap; rw [hT]; exact hPc, hE.warm (U := T.setVm vm₁) hW₁, hDc.weaken (fun _ _ _ _ => trivial), hTE.pre hS hF (U := T.setVm vm₁) hT hW₁, hNc.warm (U := T.setVm vm₁) hW₁⟩
  cases hv
  have hz' : H.size ≤ t.heap.size := by rw [← hT]; exact hz
  have hk' : ∀ q : Nat, q < H.size → ¬ va_A wc H.size q → t.heap[q]? = H[q]? := fun q a1 a2 => by rw [← hT] at a1 ⊢; exact hk q a1 a2
  obtain ⟨hP2, hD2⟩ := va_join hP hD isC isR hC hR hn hdis hk' hF hp hd
  have hP3 := hP2.sub (ws' := w2) isO (fm_of_map hO)
  have hD3 := hD2.sub (ws' := w2) isO hnO hO
  obtain ⟨U', l2, c2, s2⟩ := B
  dsimp only [Pt.U, Pt.locs, Pt.cells, Pt.slots] at X' e1 e2 h1 h2 h3 hsteps
  subst h1; subst h2; subst h3
  obtain ⟨t2, a1, b1⟩ := kk U'.heap (locs ++ L) (by rw [e1]; exact hP3) hD3
    ⟨Nat.le_trans hS.1 (by rw [e1]; exact hz'), fun q g1 g2 => by rw [e1, hk' q (Nat.lt_of_lt_of_le g1 hS.1) (fun z => g2 (hF q z))]; exact hS.2.1 q g1 g2, fun q hq => by
      rcases List.mem_append.mp hq with h | h
      · exact hS.2.2 q h
      · exact hF _ (hL q h)⟩ U' rfl X'
  exact ⟨t2, hstep₁ _ fun acts => by rw [doInvoke_state]; exact hsteps.trans a1, b1⟩
end TRY
def bx1 {α0 δ : Type} (x : Option (Nat ⊕ (α0))) (h : Nat → Option δ) (f : α0 → Option δ) : Option δ := match x with
  | some (.inr a0) => f a0
  | some (.inl e) => h e
  | none => none
theorem bx1T {α0 δ : Type} {x : Option (Nat ⊕ (α0))} {h : Nat → Option δ} {f : α0 → Option δ} {r : δ} (hq : bx1 x h f = some r) : (∃ a0, x = some (.inr a0) ∧ f a0 = some r) ∨ (∃ e, x = some (.inl e) ∧ h e = some r) := by
  cases x with
  | none => exact absurd (show (none : Option δ) = some r from hq) (by simp)
  | some z => cases z with
    | inl e => exact Or.inr ⟨e, rfl, hq⟩
    | inr q => exact Or.inl ⟨q, rfl, hq⟩
def bx2 {α0 α1 δ : Type} (x : Option (Nat ⊕ (α0 × α1))) (h : Nat → Option δ) (f : α0 → α1 → Option δ) : Option δ := match x with
  | some (.inr (a0, a1)) => f a0 a1
  | some (.inl e) => h e
  | none => none
theorem bx2T {α0 α1 δ : Type} {x : Option (Nat ⊕ (α0 × α1))} {h : Nat → Option δ} {f : α0 → α1 → Option δ} {r : δ} (hq : bx2 x h f = some r) : (∃ a0 a1, x = some (.inr (a0, a1)) ∧ f a0 a1 = some r) ∨ (∃ e, x = some (.inl e) ∧ h e = some r) := by
  cases x with
  | none => exact absurd (show (none : Option δ) = some r from hq) (by simp)
  | some z => cases z with
    | inl e => exact Or.inr ⟨e, rfl, hq⟩
    | inr q => exact Or.inl ⟨q.1, q.2, rfl, hq⟩
def bx3 {α0 α1 α2 δ : Type} (x : Option (Nat ⊕ (α0 × α1 × α2))) (h : Nat → Option δ) (f : α0 → α1 → α2 → Option δ) : Option δ := match x with
  | some (.inr (a0, a1, a2)) => f a0 a1 a2
  | some (.inl e) => h e
  | none => none
theorem bx3T {α0 α1 α2 δ : Type} {x : Option (Nat ⊕ (α0 × α1 × α2))} {h : Nat → Option δ} {f : α0 → α1 → α2 → Option δ} {r : δ} (hq : bx3 x h f = some r) : (∃ a0 a1 a2, x = some (.inr (a0, a1, a2)) ∧ f a0 a1 a2 = some r) ∨ (∃ e, x = some (.inl e) ∧ h e = some r) := by
  cases x with
  | none => exact absurd (show (none : Option δ) = some r from hq) (by simp)
  | some z => cases z with
    | inl e => exact Or.inr ⟨e, rfl, hq⟩
    | inr q => exact Or.inl ⟨q.1, q.2.1, q.2.2, rfl, hq⟩
def bx4 {α0 α1 α2 α3 δ : Type} (x : Option (Nat ⊕ (α0 × α1 × α2 × α3))) (h : Nat → Option δ) (f : α0 → α1 → α2 → α3 → Option δ) : Option δ := match x with
  | some (.inr (a0, a1, a2, a3)) => f a0 a1 a2 a3
  | some (.inl e) => h e
  | none => none
theorem bx4T {α0 α1 α2 α3 δ : Type} {x : Option (Nat ⊕ (α0 × α1 × α2 × α3))} {h : Nat → Option δ} {f : α0 → α1 → α2 → α3 → Option δ} {r : δ} (hq : bx4 x h f = some r) : (∃ a0 a1 a2 a3, x = some (.inr (a0, a1, a2, a3)) ∧ f a0 a1 a2 a3 = some r) ∨ (∃ e, x = some (.inl e) ∧ h e = some r) := by
  cases x with
  | none => exact absurd (show (none : Option δ) = some r from hq) (by simp)
  | some z => cases z with
    | inl e => exact Or.inr ⟨e, rfl, hq⟩
    | inr q => exact Or.inl ⟨q.1, q.2.1, q.2.2.1, q.2.2.2, rfl, hq⟩
def bx5 {α0 α1 α2 α3 α4 δ : Type} (x : Option (Nat ⊕ (α0 × α1 × α2 × α3 × α4))) (h : Nat → Option δ) (f : α0 → α1 → α2 → α3 → α4 → Option δ) : Option δ := match x with
  | some (.inr (a0, a1, a2, a3, a4)) => f a0 a1 a2 a3 a4
  | some (.inl e) => h e
  | none => none
theorem bx5T {α0 α1 α2 α3 α4 δ : Type} {x : Option (Nat ⊕ (α0 × α1 × α2 × α3 × α4))} {h : Nat → Option δ} {f : α0 → α1 → α2 → α3 → α4 → Option δ} {r : δ} (hq : bx5 x h f = some r) : (∃ a0 a1 a2 a3 a4, x = some (.inr (a0, a1, a2, a3, a4)) ∧ f a0 a1 a2 a3 a4 = some r) ∨ (∃ e, x = some (.inl e) ∧ h e = some r) := by
  cases x with
  | none => exact absurd (show (none : Option δ) = some r from hq) (by simp)
  | some z => cases z with
    | inl e => exact Or.inr ⟨e, rfl, hq⟩
    | inr q => exact Or.inl ⟨q.1, q.2.1, q.2.2.1, q.2.2.2.1, q.2.2.2.2, rfl, hq⟩
def bx6 {α0 α1 α2 α3 α4 α5 δ : Type} (x : Option (Nat ⊕ (α0 × α1 × α2 × α3 × α4 × α5))) (h : Nat → Option δ) (f : α0 → α1 → α2 → α3 → α4 → α5 → Option δ) : Option δ := match x with
  | some (.inr (a0, a1, a2, a3, a4, a5)) => f a0 a1 a2 a3 a4 a5
  | some (.inl e) => h e
  | none => none
theorem bx6T {α0 α1 α2 α3 α4 α5 δ : Type} {x : Option (Nat ⊕ (α0 × α1 × α2 × α3 × α4 × α5))} {h : Nat → Option δ} {f : α0 → α1 → α2 → α3 → α4 → α5 → Option δ} {r : δ} (hq : bx6 x h f = some r) : (∃ a0 a1 a2 a3 a4 a5, x = some (.inr (a0, a1, a2, a3, a4, a5)) ∧ f a0 a1 a2 a3 a4 a5 = some r) ∨ (∃ e, x = some (.inl e) ∧ h e = some r) := by
  cases x with
  | none => exact absurd (show (none : Option δ) = some r from hq) (by simp)
  | some z => cases z with
    | inl e => exact Or.inr ⟨e, rfl, hq⟩
    | inr q => exact Or.inl ⟨q.1, q.2.1, q.2.2.1, q.2.2.2.1, q.2.2.2.2.1, q.2.2.2.2.2, rfl, hq⟩
def bx7 {α0 α1 α2 α3 α4 α5 α6 δ : Type} (x : Option (Nat ⊕ (α0 × α1 × α2 × α3 × α4 × α5 × α6))) (h : Nat → Option δ) (f : α0 → α1 → α2 → α3 → α4 → α5 → α6 → Option δ) : Option δ := match x with
  | some (.inr (a0, a1, a2, a3, a4, a5, a6)) => f a0 a1 a2 a3 a4 a5 a6
  | some (.inl e) => h e
  | none => none
theorem bx7T {α0 α1 α2 α3 α4 α5 α6 δ : Type} {x : Option (Nat ⊕ (α0 × α1 × α2 × α3 × α4 × α5 × α6))} {h : Nat → Option δ} {f : α0 → α1 → α2 → α3 → α4 → α5 → α6 → Option δ} {r : δ} (hq : bx7 x h f = some r) : (∃ a0 a1 a2 a3 a4 a5 a6, x = some (.inr (a0, a1, a2, a3, a4, a5, a6)) ∧ f a0 a1 a2 a3 a4 a5 a6 = some r) ∨ (∃ e, x = some (.inl e) ∧ h e = some r) := by
  cases x with
  | none => exact absurd (show (none : Option δ) = some r from hq) (by simp)
  | some z => cases z with
    | inl e => exact Or.inr ⟨e, rfl, hq⟩
    | inr q => exact Or.inl ⟨q.1, q.2.1, q.2.2.1, q.2.2.2.1, q.2.2.2.2.1, q.2.2.2.2.2.1, q.2.2.2.2.2.2, rfl, hq⟩
theorem xl_0 : (Cond.castable "java/lang/IllegalArgumentException" "java/lang/IllegalArgumentException") ∈ XL := List.mem_filter.mpr ⟨tb2 (i := 33) rfl, rfl⟩
theorem xl_1 : (Cond.castable "java/lang/IllegalStateException" "java/lang/IllegalStateException") ∈ XL := List.mem_filter.mpr ⟨tb2 (i := 101) rfl, rfl⟩
theorem xl_2 : (Cond.castable "java/lang/ArithmeticException" "java/lang/ArithmeticException") ∈ XL := List.mem_filter.mpr ⟨tb2 (i := 196) rfl, rfl⟩
theorem gw_7a5c62b4 : gV R_Law 7 R_Or y_Or_part b_Or_part 5 (some .int) 3 := gV_of iw_ea6e8853 iw_16562bbf iw_dd2f7829 iw_16f0de2c iw_5f42ee0b (by decide +kernel)
theorem gw_10fa32bb : gV R_Law 17 R_Or y_Or_join b_Or_join 3 (some .int) 2 := gV_of iw_262fe315 iw_1a277595 iw_6bb71b15 iw_16f0de2c iw_94d47633 (by decide +kernel)
theorem gw_11937614 : gV R_Law 21 R_Or y_Or_verdict b_Or_verdict 5 (some .int) 2 := gV_of iw_a850a2a5 iw_a96d12f2 iw_57f1b679 iw_16f0de2c iw_baaf6f23 (by decide +kernel)
theorem gw_ad42f523 : gV R_Law 25 R_Or y_Or_share b_Or_share 8 (some .long) 2 := gV_of iw_accb752e iw_77d08efc iw_2e5ec655 iw_16f0de2c iw_596a01a0 (by decide +kernel)
theorem gw_0f9906c0 : gV R_Law 31 R_Or y_Or_proof b_Or_proof 4 (some .int) 3 := gV_of iw_8f01e2cf iw_14d0cfed iw_605b6586 iw_16f0de2c iw_60e4ad7f (by decide +kernel)
theorem gw_b91df546 : gV R_Law 35 R_Or y_Or_good b_Or_good 5 (some .boolean) 3 := gV_of iw_12203432 iw_341fd5eb iw_169ef8ca iw_16f0de2c iw_1a532549 (by decide +kernel)
theorem gw_68a0c40f : gV R_Law 39 R_Or y_Or_own b_Or_own 2 (some .boolean) 1 := gV_of iw_f94d2752 iw_25289461 iw_f7268205 iw_16f0de2c iw_3144791b (by decide +kernel)
