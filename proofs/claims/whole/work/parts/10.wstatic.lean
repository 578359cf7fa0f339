def rm_Or_isCode : Room := { frames := 0, cells := 0, slots := 0, locals := 0 }
set_option maxHeartbeats 4000000 in
set_option maxRecDepth 100000 in
theorem c_Or_isCode (l : Launch) (D : va_G) (cT : Nat → ClassId) (p1 : Int32) {rr : Bool} (hM : m_Or_isCode p1 = some rr) : Ct l y_Or_isCode (WS y_Or_isCode b_Or_isCode 1 (some .boolean)) rm_Or_isCode D cT [.int p1] [] (some (.int (bI rr))) [] 0 0 := by
  intro sz
  refine Met.ofW (cc := b_Or_isCode) (maxL := 1) (ret := (some .boolean)) (by decide) rfl ?_
  intro p e s m args below meth c s₁ B hml hv
  obtain ⟨rfl, hsz, hP, hE, hD0⟩ := hv
  have hx := B.exec
  have hb := B.bytes
  have hr := B.returns
  have hts : ∀ w ∈ TB, w.before _ s = true := fun w h => atoms_spec (ws := WS y_Or_isCode b_Or_isCode 1 (some .boolean)) B.pre w (List.mem_cons_of_mem _ h)
  have hown : s.vm.findClass R_Or = some m.cls := findClass_of_methodNamed B.named
  have hlocks := B.notSynchronized
  have hK := hE.1
  have hN := hE.2
  subst hsz
  have hD := hD0.self (sz := s.heap.size)
  generalize hAe : va_A [] s.heap.size = A at hD ⊢
  have hA : ∀ q : Nat, s.heap.size ≤ q → A q := fun q h => by rw [← hAe]; exact Or.inr h
  have hS : va_S A s.heap s.heap [] := va_S.rf
  have hl := lv_entry ([.int p1]) (n := 1) (Nat.le_of_ble_eq_true rfl)
  rw [lg_entry_eq]
  generalize (lg_sl ([.int p1]) ++ List.replicate (1 - (lg_sl ([.int p1])).length) Slot.unset).toArray = ls at hl ⊢
  have hl : lv_has ls 1 [(0, .int p1)] := hl
  have S : CallFix p m c b_Or_isCode 1 s _ TB R_Or := ⟨hx, hb, hml, hown, hts⟩
  unfold m_Or_isCode at hM
  refine lv_iload_n hx hb d_Or_isCode_0 rfl (lv_at hl 0 rfl) ?_
  refine lv_iconst (v := 1) hx hb d_Or_isCode_1 (by decide) ?_
  refine lv_icmp_lt (tgt := 15) hx hb d_Or_isCode_2 (by decide) (fun c_2 => ?_) (fun c_2 => ?_)
  · have hM := itT hM c_2
    refine lv_iconst (v := 0) hx hb d_Or_isCode_15 (by decide) ?_
    have eo0 := Option.some.inj hM
    subst eo0
    exact rt_z S hr hlocks hP hD hS d_Or_isCode_16
  · have hM := itF hM c_2
    refine lv_iload_n hx hb d_Or_isCode_5 rfl (lv_at hl 0 rfl) ?_
    refine lv_ldc (v := 999999) hx hb hown (hts _ iw_8178fd4a) d_Or_isCode_6 ?_
    refine lv_icmp_gt (tgt := 15) hx hb d_Or_isCode_8 (by decide) (fun c_8 => ?_) (fun c_8 => ?_)
    · have hM := itT hM c_8
      refine lv_iconst (v := 0) hx hb d_Or_isCode_15 (by decide) ?_
      have eo0 := Option.some.inj hM
      subst eo0
      exact rt_z S hr hlocks hP hD hS d_Or_isCode_16
    · have hM := itF hM c_8
      refine lv_iconst (v := 1) hx hb d_Or_isCode_11 (by decide) ?_
      refine lv_goto (tgt := 16) hx hb d_Or_isCode_12 (by decide) ?_
      have eo0 := Option.some.inj hM
      subst eo0
      exact rt_z S hr hlocks hP hD hS d_Or_isCode_16
def rm_Or_isLand : Room := { frames := 0, cells := 0, slots := 0, locals := 0 }
set_option maxHeartbeats 4000000 in
set_option maxRecDepth 100000 in
theorem c_Or_isLand (l : Launch) (D : va_G) (cT : Nat → ClassId) (p1 : Int32) {rr : Bool} (hM : m_Or_isLand p1 = some rr) : Ct l y_Or_isLand (WS y_Or_isLand b_Or_isLand 1 (some .boolean)) rm_Or_isLand D cT [.int p1] [] (some (.int (bI rr))) [] 0 0 := by
  intro sz
  refine Met.ofW (cc := b_Or_isLand) (maxL := 1) (ret := (some .boolean)) (by decide) rfl ?_
  intro p e s m args below meth c s₁ B hml hv
  obtain ⟨rfl, hsz, hP, hE, hD0⟩ := hv
  have hx := B.exec
  have hb := B.bytes
  have hr := B.returns
  have hts : ∀ w ∈ TB, w.before _ s = true := fun w h => atoms_spec (ws := WS y_Or_isLand b_Or_isLand 1 (some .boolean)) B.pre w (List.mem_cons_of_mem _ h)
  have hown : s.vm.findClass R_Or = some m.cls := findClass_of_methodNamed B.named
  have hlocks := B.notSynchronized
  have hK := hE.1
  have hN := hE.2
  subst hsz
  have hD := hD0.self (sz := s.heap.size)
  generalize hAe : va_A [] s.heap.size = A at hD ⊢
  have hA : ∀ q : Nat, s.heap.size ≤ q → A q := fun q h => by rw [← hAe]; exact Or.inr h
  have hS : va_S A s.heap s.heap [] := va_S.rf
  have hl := lv_entry ([.int p1]) (n := 1) (Nat.le_of_ble_eq_true rfl)
  rw [lg_entry_eq]
  generalize (lg_sl ([.int p1]) ++ List.replicate (1 - (lg_sl ([.int p1])).length) Slot.unset).toArray = ls at hl ⊢
  have hl : lv_has ls 1 [(0, .int p1)] := hl
  have S : CallFix p m c b_Or_isLand 1 s _ TB R_Or := ⟨hx, hb, hml, hown, hts⟩
  unfold m_Or_isLand at hM
  refine lv_iload_n hx hb d_Or_isLand_0 rfl (lv_at hl 0 rfl) ?_
  refine lv_if_lt (tgt := 14) hx hb d_Or_isLand_1 (by decide) (fun c_1 => ?_) (fun c_1 => ?_)
  · have hM := itT hM c_1
    refine lv_iconst (v := 0) hx hb d_Or_isLand_14 (by decide) ?_
    have eo0 := Option.some.inj hM
    subst eo0
    exact rt_z S hr hlocks hP hD hS d_Or_isLand_15
  · have hM := itF hM c_1
    refine lv_iload_n hx hb d_Or_isLand_4 rfl (lv_at hl 0 rfl) ?_
    refine lv_bipush (v := 10) hx hb d_Or_isLand_5 (by decide) ?_
    refine lv_icmp_ge (tgt := 14) hx hb d_Or_isLand_7 (by decide) (fun c_7 => ?_) (fun c_7 => ?_)
    · have hM := itT hM c_7
      refine lv_iconst (v := 0) hx hb d_Or_isLand_14 (by decide) ?_
      have eo0 := Option.some.inj hM
      subst eo0
      exact rt_z S hr hlocks hP hD hS d_Or_isLand_15
    · have hM := itF hM c_7
      refine lv_iconst (v := 1) hx hb d_Or_isLand_10 (by decide) ?_
      refine lv_goto (tgt := 15) hx hb d_Or_isLand_11 (by decide) ?_
      have eo0 := Option.some.inj hM
      subst eo0
      exact rt_z S hr hlocks hP hD hS d_Or_isLand_15
def rm_Or_isCents : Room := { frames := 0, cells := 0, slots := 0, locals := 0 }
set_option maxHeartbeats 4000000 in
set_option maxRecDepth 100000 in
theorem c_Or_isCents (l : Launch) (D : va_G) (cT : Nat → ClassId) (p1 : Int64) {rr : Bool} (hM : m_Or_isCents p1 = some rr) : Ct l y_Or_isCents (WS y_Or_isCents b_Or_isCents 2 (some .boolean)) rm_Or_isCents D cT [.long p1] [] (some (.int (bI rr))) [] 0 0 := by
  intro sz
  refine Met.ofW (cc := b_Or_isCents) (maxL := 2) (ret := (some .boolean)) (by decide) rfl ?_
  intro p e s m args below meth c s₁ B hml hv
  obtain ⟨rfl, hsz, hP, hE, hD0⟩ := hv
  have hx := B.exec
  have hb := B.bytes
  have hr := B.returns
  have hts : ∀ w ∈ TB, w.before _ s = true := fun w h => atoms_spec (ws := WS y_Or_isCents b_Or_isCents 2 (some .boolean)) B.pre w (List.mem_cons_of_mem _ h)
  have hown : s.vm.findClass R_Or = some m.cls := findClass_of_methodNamed B.named
  have hlocks := B.notSynchronized
  have hK := hE.1
  have hN := hE.2
  subst hsz
  have hD := hD0.self (sz := s.heap.size)
  generalize hAe : va_A [] s.heap.size = A at hD ⊢
  have hA : ∀ q : Nat, s.heap.size ≤ q → A q := fun q h => by rw [← hAe]; exact Or.inr h
  have hS : va_S A s.heap s.heap [] := va_S.rf
  have hl := lv_entry ([.long p1]) (n := 2) (Nat.le_of_ble_eq_true rfl)
  rw [lg_entry_eq]
  generalize (lg_sl ([.long p1]) ++ List.replicate (2 - (lg_sl ([.long p1])).length) Slot.unset).toArray = ls at hl ⊢
  have hl : lv_has ls 2 [(0, .long p1)] := hl
  have S : CallFix p m c b_Or_isCents 2 s _ TB R_Or := ⟨hx, hb, hml, hown, hts⟩
  unfold m_Or_isCents at hM
  refine lv_lload_n hx hb d_Or_isCents_0 rfl (lv_at hl 0 rfl) ?_
  refine lv_lconst (v := 0) hx hb d_Or_isCents_1 (by decide) ?_
  refine W.lcmp hx hb d_Or_isCents_2 ?_
  refine lv_if_lt (tgt := 18) hx hb d_Or_isCents_3 (by decide) (fun c_3 => ?_) (fun c_3 => ?_)
  · have hM := itT hM c_3
    refine lv_iconst (v := 0) hx hb d_Or_isCents_18 (by decide) ?_
    have eo0 := Option.some.inj hM
    subst eo0
    exact rt_z S hr hlocks hP hD hS d_Or_isCents_19
  · have hM := itF hM c_3
    refine lv_lload_n hx hb d_Or_isCents_6 rfl (lv_at hl 0 rfl) ?_
    refine lv_ldc2 (v := 1000000000) hx hb hown (hts _ iw_1859ecce) d_Or_isCents_7 ?_
    refine W.lcmp hx hb d_Or_isCents_10 ?_
    refine lv_if_gt (tgt := 18) hx hb d_Or_isCents_11 (by decide) (fun c_11 => ?_) (fun c_11 => ?_)
    · have hM := itT hM c_11
      refine lv_iconst (v := 0) hx hb d_Or_isCents_18 (by decide) ?_
      have eo0 := Option.some.inj hM
      subst eo0
      exact rt_z S hr hlocks hP hD hS d_Or_isCents_19
    · have hM := itF hM c_11
      refine lv_iconst (v := 1) hx hb d_Or_isCents_14 (by decide) ?_
      refine lv_goto (tgt := 19) hx hb d_Or_isCents_15 (by decide) ?_
      have eo0 := Option.some.inj hM
      subst eo0
      exact rt_z S hr hlocks hP hD hS d_Or_isCents_19
def rm_Or_isProcess : Room := { frames := 0, cells := 0, slots := 0, locals := 0 }
set_option maxHeartbeats 4000000 in
set_option maxRecDepth 100000 in
theorem c_Or_isProcess (l : Launch) (D : va_G) (cT : Nat → ClassId) (p1 : Int32) {rr : Bool} (hM : m_Or_isProcess p1 = some rr) : Ct l y_Or_isProcess (WS y_Or_isProcess b_Or_isProcess 1 (some .boolean)) rm_Or_isProcess D cT [.int p1] [] (some (.int (bI rr))) [] 0 0 := by
  intro sz
  refine Met.ofW (cc := b_Or_isProcess) (maxL := 1) (ret := (some .boolean)) (by decide) rfl ?_
  intro p e s m args below meth c s₁ B hml hv
  obtain ⟨rfl, hsz, hP, hE, hD0⟩ := hv
  have hx := B.exec
  have hb := B.bytes
  have hr := B.returns
  have hts : ∀ w ∈ TB, w.before _ s = true := fun w h => atoms_spec (ws := WS y_Or_isProcess b_Or_isProcess 1 (some .boolean)) B.pre w (List.mem_cons_of_mem _ h)
  have hown : s.vm.findClass R_Or = some m.cls := findClass_of_methodNamed B.named
  have hlocks := B.notSynchronized
  have hK := hE.1
  have hN := hE.2
  subst hsz
  have hD := hD0.self (sz := s.heap.size)
  generalize hAe : va_A [] s.heap.size = A at hD ⊢
  have hA : ∀ q : Nat, s.heap.size ≤ q → A q := fun q h => by rw [← hAe]; exact Or.inr h
  have hS : va_S A s.heap s.heap [] := va_S.rf
  have hl := lv_entry ([.int p1]) (n := 1) (Nat.le_of_ble_eq_true rfl)
  rw [lg_entry_eq]
  generalize (lg_sl ([.int p1]) ++ List.replicate (1 - (lg_sl ([.int p1])).length) Slot.unset).toArray = ls at hl ⊢
  have hl : lv_has ls 1 [(0, .int p1)] := hl
  have S : CallFix p m c b_Or_isProcess 1 s _ TB R_Or := ⟨hx, hb, hml, hown, hts⟩
  unfold m_Or_isProcess at hM
  refine lv_iload_n hx hb d_Or_isProcess_0 rfl (lv_at hl 0 rfl) ?_
  refine lv_if_lt (tgt := 14) hx hb d_Or_isProcess_1 (by decide) (fun c_1 => ?_) (fun c_1 => ?_)
  · have hM := itT hM c_1
    refine lv_iconst (v := 0) hx hb d_Or_isProcess_14 (by decide) ?_
    have eo0 := Option.some.inj hM
    subst eo0
    exact rt_z S hr hlocks hP hD hS d_Or_isProcess_15
  · have hM := itF hM c_1
    refine lv_iload_n hx hb d_Or_isProcess_4 rfl (lv_at hl 0 rfl) ?_
    refine lv_bipush (v := 15) hx hb d_Or_isProcess_5 (by decide) ?_
    refine lv_icmp_gt (tgt := 14) hx hb d_Or_isProcess_7 (by decide) (fun c_7 => ?_) (fun c_7 => ?_)
    · have hM := itT hM c_7
      refine lv_iconst (v := 0) hx hb d_Or_isProcess_14 (by decide) ?_
      have eo0 := Option.some.inj hM
      subst eo0
      exact rt_z S hr hlocks hP hD hS d_Or_isProcess_15
    · have hM := itF hM c_7
      refine lv_iconst (v := 1) hx hb d_Or_isProcess_10 (by decide) ?_
      refine lv_goto (tgt := 15) hx hb d_Or_isProcess_11 (by decide) ?_
      have eo0 := Option.some.inj hM
      subst eo0
      exact rt_z S hr hlocks hP hD hS d_Or_isProcess_15
def rm_Or_isDay : Room := { frames := 0, cells := 0, slots := 0, locals := 0 }
set_option maxHeartbeats 4000000 in
set_option maxRecDepth 100000 in
theorem c_Or_isDay (l : Launch) (D : va_G) (cT : Nat → ClassId) (p1 : Int32) {rr : Bool} (hM : m_Or_isDay p1 = some rr) : Ct l y_Or_isDay (WS y_Or_isDay b_Or_isDay 1 (some .boolean)) rm_Or_isDay D cT [.int p1] [] (some (.int (bI rr))) [] 0 0 := by
  intro sz
  refine Met.ofW (cc := b_Or_isDay) (maxL := 1) (ret := (some .boolean)) (by decide) rfl ?_
  intro p e s m args below meth c s₁ B hml hv
  obtain ⟨rfl, hsz, hP, hE, hD0⟩ := hv
  have hx := B.exec
  have hb := B.bytes
  have hr := B.returns
  have hts : ∀ w ∈ TB, w.before _ s = true := fun w h => atoms_spec (ws := WS y_Or_isDay b_Or_isDay 1 (some .boolean)) B.pre w (List.mem_cons_of_mem _ h)
  have hown : s.vm.findClass R_Or = some m.cls := findClass_of_methodNamed B.named
  have hlocks := B.notSynchronized
  have hK := hE.1
  have hN := hE.2
  subst hsz
  have hD := hD0.self (sz := s.heap.size)
  generalize hAe : va_A [] s.heap.size = A at hD ⊢
  have hA : ∀ q : Nat, s.heap.size ≤ q → A q := fun q h => by rw [← hAe]; exact Or.inr h
  have hS : va_S A s.heap s.heap [] := va_S.rf
  have hl := lv_entry ([.int p1]) (n := 1) (Nat.le_of_ble_eq_true rfl)
  rw [lg_entry_eq]
  generalize (lg_sl ([.int p1]) ++ List.replicate (1 - (lg_sl ([.int p1])).length) Slot.unset).toArray = ls at hl ⊢
  have hl : lv_has ls 1 [(0, .int p1)] := hl
  have S : CallFix p m c b_Or_isDay 1 s _ TB R_Or := ⟨hx, hb, hml, hown, hts⟩
  unfold m_Or_isDay at hM
  refine lv_iload_n hx hb d_Or_isDay_0 rfl (lv_at hl 0 rfl) ?_
  refine lv_if_lt (tgt := 14) hx hb d_Or_isDay_1 (by decide) (fun c_1 => ?_) (fun c_1 => ?_)
  · have hM := itT hM c_1
    refine lv_iconst (v := 0) hx hb d_Or_isDay_14 (by decide) ?_
    have eo0 := Option.some.inj hM
    subst eo0
    exact rt_z S hr hlocks hP hD hS d_Or_isDay_15
  · have hM := itF hM c_1
    refine lv_iload_n hx hb d_Or_isDay_4 rfl (lv_at hl 0 rfl) ?_
    refine lv_ldc (v := 100000) hx hb hown (hts _ iw_d6934595) d_Or_isDay_5 ?_
    refine lv_icmp_gt (tgt := 14) hx hb d_Or_isDay_7 (by decide) (fun c_7 => ?_) (fun c_7 => ?_)
    · have hM := itT hM c_7
      refine lv_iconst (v := 0) hx hb d_Or_isDay_14 (by decide) ?_
      have eo0 := Option.some.inj hM
      subst eo0
      exact rt_z S hr hlocks hP hD hS d_Or_isDay_15
    · have hM := itF hM c_7
      refine lv_iconst (v := 1) hx hb d_Or_isDay_10 (by decide) ?_
      refine lv_goto (tgt := 15) hx hb d_Or_isDay_11 (by decide) ?_
      have eo0 := Option.some.inj hM
      subst eo0
      exact rt_z S hr hlocks hP hD hS d_Or_isDay_15
def rm_Or_isDigit : Room := { frames := 0, cells := 0, slots := 0, locals := 0 }
set_option maxHeartbeats 4000000 in
set_option maxRecDepth 100000 in
theorem c_Or_isDigit (l : Launch) (D : va_G) (cT : Nat → ClassId) (p1 : Int32) {rr : Bool} (hM : m_Or_isDigit p1 = some rr) : Ct l y_Or_isDigit (WS y_Or_isDigit b_Or_isDigit 1 (some .boolean)) rm_Or_isDigit D cT [.int p1] [] (some (.int (bI rr))) [] 0 0 := by
  intro sz
  refine Met.ofW (cc := b_Or_isDigit) (maxL := 1) (ret := (some .boolean)) (by decide) rfl ?_
  intro p e s m args below meth c s₁ B hml hv
  obtain ⟨rfl, hsz, hP, hE, hD0⟩ := hv
  have hx := B.exec
  have hb := B.bytes
  have hr := B.returns
  have hts : ∀ w ∈ TB, w.before _ s = true := fun w h => atoms_spec (ws := WS y_Or_isDigit b_Or_isDigit 1 (some .boolean)) B.pre w (List.mem_cons_of_mem _ h)
  have hown : s.vm.findClass R_Or = some m.cls := findClass_of_methodNamed B.named
  have hlocks := B.notSynchronized
  have hK := hE.1
  have hN := hE.2
  subst hsz
  have hD := hD0.self (sz := s.heap.size)
  generalize hAe : va_A [] s.heap.size = A at hD ⊢
  have hA : ∀ q : Nat, s.heap.size ≤ q → A q := fun q h => by rw [← hAe]; exact Or.inr h
  have hS : va_S A s.heap s.heap [] := va_S.rf
  have hl := lv_entry ([.int p1]) (n := 1) (Nat.le_of_ble_eq_true rfl)
  rw [lg_entry_eq]
  generalize (lg_sl ([.int p1]) ++ List.replicate (1 - (lg_sl ([.int p1])).length) Slot.unset).toArray = ls at hl ⊢
  have hl : lv_has ls 1 [(0, .int p1)] := hl
  have S : CallFix p m c b_Or_isDigit 1 s _ TB R_Or := ⟨hx, hb, hml, hown, hts⟩
  unfold m_Or_isDigit at hM
  refine lv_iload_n hx hb d_Or_isDigit_0 rfl (lv_at hl 0 rfl) ?_
  refine lv_bipush (v := 48) hx hb d_Or_isDigit_1 (by decide) ?_
  refine lv_icmp_lt (tgt := 16) hx hb d_Or_isDigit_3 (by decide) (fun c_3 => ?_) (fun c_3 => ?_)
  · have hM := itT hM c_3
    refine lv_iconst (v := 0) hx hb d_Or_isDigit_16 (by decide) ?_
    have eo0 := Option.some.inj hM
    subst eo0
    exact rt_z S hr hlocks hP hD hS d_Or_isDigit_17
  · have hM := itF hM c_3
    refine lv_iload_n hx hb d_Or_isDigit_6 rfl (lv_at hl 0 rfl) ?_
    refine lv_bipush (v := 57) hx hb d_Or_isDigit_7 (by decide) ?_
    refine lv_icmp_gt (tgt := 16) hx hb d_Or_isDigit_9 (by decide) (fun c_9 => ?_) (fun c_9 => ?_)
    · have hM := itT hM c_9
      refine lv_iconst (v := 0) hx hb d_Or_isDigit_16 (by decide) ?_
      have eo0 := Option.some.inj hM
      subst eo0
      exact rt_z S hr hlocks hP hD hS d_Or_isDigit_17
    · have hM := itF hM c_9
      refine lv_iconst (v := 1) hx hb d_Or_isDigit_12 (by decide) ?_
      refine lv_goto (tgt := 17) hx hb d_Or_isDigit_13 (by decide) ?_
      have eo0 := Option.some.inj hM
      subst eo0
      exact rt_z S hr hlocks hP hD hS d_Or_isDigit_17
def rm_Or_isLetter : Room := { frames := 0, cells := 0, slots := 0, locals := 0 }
set_option maxHeartbeats 4000000 in
set_option maxRecDepth 100000 in
theorem c_Or_isLetter (l : Launch) (D : va_G) (cT : Nat → ClassId) (p1 : Int32) {rr : Bool} (hM : m_Or_isLetter p1 = some rr) : Ct l y_Or_isLetter (WS y_Or_isLetter b_Or_isLetter 1 (some .boolean)) rm_Or_isLetter D cT [.int p1] [] (some (.int (bI rr))) [] 0 0 := by
  intro sz
  refine Met.ofW (cc := b_Or_isLetter) (maxL := 1) (ret := (some .boolean)) (by decide) rfl ?_
  intro p e s m args below meth c s₁ B hml hv
  obtain ⟨rfl, hsz, hP, hE, hD0⟩ := hv
  have hx := B.exec
  have hb := B.bytes
  have hr := B.returns
  have hts : ∀ w ∈ TB, w.before _ s = true := fun w h => atoms_spec (ws := WS y_Or_isLetter b_Or_isLetter 1 (some .boolean)) B.pre w (List.mem_cons_of_mem _ h)
  have hown : s.vm.findClass R_Or = some m.cls := findClass_of_methodNamed B.named
  have hlocks := B.notSynchronized
  have hK := hE.1
  have hN := hE.2
  subst hsz
  have hD := hD0.self (sz := s.heap.size)
  generalize hAe : va_A [] s.heap.size = A at hD ⊢
  have hA : ∀ q : Nat, s.heap.size ≤ q → A q := fun q h => by rw [← hAe]; exact Or.inr h
  have hS : va_S A s.heap s.heap [] := va_S.rf
  have hl := lv_entry ([.int p1]) (n := 1) (Nat.le_of_ble_eq_true rfl)
  rw [lg_entry_eq]
  generalize (lg_sl ([.int p1]) ++ List.replicate (1 - (lg_sl ([.int p1])).length) Slot.unset).toArray = ls at hl ⊢
  have hl : lv_has ls 1 [(0, .int p1)] := hl
  have S : CallFix p m c b_Or_isLetter 1 s _ TB R_Or := ⟨hx, hb, hml, hown, hts⟩
  unfold m_Or_isLetter at hM
  refine lv_iload_n hx hb d_Or_isLetter_0 rfl (lv_at hl 0 rfl) ?_
  refine lv_bipush (v := 65) hx hb d_Or_isLetter_1 (by decide) ?_
  refine lv_icmp_lt (tgt := 16) hx hb d_Or_isLetter_3 (by decide) (fun c_3 => ?_) (fun c_3 => ?_)
  · have hM := itT hM c_3
    refine lv_iconst (v := 0) hx hb d_Or_isLetter_16 (by decide) ?_
    have eo0 := Option.some.inj hM
    subst eo0
    exact rt_z S hr hlocks hP hD hS d_Or_isLetter_17
  · have hM := itF hM c_3
    refine lv_iload_n hx hb d_Or_isLetter_6 rfl (lv_at hl 0 rfl) ?_
    refine lv_bipush (v := 90) hx hb d_Or_isLetter_7 (by decide) ?_
    refine lv_icmp_gt (tgt := 16) hx hb d_Or_isLetter_9 (by decide) (fun c_9 => ?_) (fun c_9 => ?_)
    · have hM := itT hM c_9
      refine lv_iconst (v := 0) hx hb d_Or_isLetter_16 (by decide) ?_
      have eo0 := Option.some.inj hM
      subst eo0
      exact rt_z S hr hlocks hP hD hS d_Or_isLetter_17
    · have hM := itF hM c_9
      refine lv_iconst (v := 1) hx hb d_Or_isLetter_12 (by decide) ?_
      refine lv_goto (tgt := 17) hx hb d_Or_isLetter_13 (by decide) ?_
      have eo0 := Option.some.inj hM
      subst eo0
      exact rt_z S hr hlocks hP hD hS d_Or_isLetter_17
def rm_Or_hasBit : Room := { frames := 0, cells := 0, slots := 0, locals := 0 }
set_option maxHeartbeats 4000000 in
set_option maxRecDepth 100000 in
theorem c_Or_hasBit (l : Launch) (D : va_G) (cT : Nat → ClassId) (p1 : Int32) (p2 : Int32) {rr : Bool} (hM : m_Or_hasBit p1 p2 = some rr) : Ct l y_Or_hasBit (WS y_Or_hasBit b_Or_hasBit 2 (some .boolean)) rm_Or_hasBit D cT [.int p1, .int p2] [] (some (.int (bI rr))) [] 0 0 := by
  intro sz
  refine Met.ofW (cc := b_Or_hasBit) (maxL := 2) (ret := (some .boolean)) (by decide) rfl ?_
  intro p e s m args below meth c s₁ B hml hv
  obtain ⟨rfl, hsz, hP, hE, hD0⟩ := hv
  have hx := B.exec
  have hb := B.bytes
  have hr := B.returns
  have hts : ∀ w ∈ TB, w.before _ s = true := fun w h => atoms_spec (ws := WS y_Or_hasBit b_Or_hasBit 2 (some .boolean)) B.pre w (List.mem_cons_of_mem _ h)
  have hown : s.vm.findClass R_Or = some m.cls := findClass_of_methodNamed B.named
  have hlocks := B.notSynchronized
  have hK := hE.1
  have hN := hE.2
  subst hsz
  have hD := hD0.self (sz := s.heap.size)
  generalize hAe : va_A [] s.heap.size = A at hD ⊢
  have hA : ∀ q : Nat, s.heap.size ≤ q → A q := fun q h => by rw [← hAe]; exact Or.inr h
  have hS : va_S A s.heap s.heap [] := va_S.rf
  have hl := lv_entry ([.int p1, .int p2]) (n := 2) (Nat.le_of_ble_eq_true rfl)
  rw [lg_entry_eq]
  generalize (lg_sl ([.int p1, .int p2]) ++ List.replicate (2 - (lg_sl ([.int p1, .int p2])).length) Slot.unset).toArray = ls at hl ⊢
  have hl : lv_has ls 2 [(0, .int p1), (1, .int p2)] := hl
  have S : CallFix p m c b_Or_hasBit 2 s _ TB R_Or := ⟨hx, hb, hml, hown, hts⟩
  unfold m_Or_hasBit at hM
  refine lv_iload_n hx hb d_Or_hasBit_0 rfl (lv_at hl 0 rfl) ?_
  refine lv_iload_n hx hb d_Or_hasBit_1 rfl (lv_at hl 1 rfl) ?_
  refine lv_ishr hx hb d_Or_hasBit_2 ?_
  refine lv_iconst (v := 1) hx hb d_Or_hasBit_3 (by decide) ?_
  refine lv_iand hx hb d_Or_hasBit_4 ?_
  refine lv_iconst (v := 1) hx hb d_Or_hasBit_5 (by decide) ?_
  refine lv_icmp_ne (tgt := 13) hx hb d_Or_hasBit_6 (by decide) (fun c_6 => ?_) (fun c_6 => ?_)
  · have hM := itF hM c_6
    refine lv_iconst (v := 0) hx hb d_Or_hasBit_13 (by decide) ?_
    have eo0 := Option.some.inj hM
    subst eo0
    exact rt_z S hr hlocks hP hD hS d_Or_hasBit_14
  · have hM := itT hM c_6
    refine lv_iconst (v := 1) hx hb d_Or_hasBit_9 (by decide) ?_
    refine lv_goto (tgt := 14) hx hb d_Or_hasBit_10 (by decide) ?_
    have eo0 := Option.some.inj hM
    subst eo0
    exact rt_z S hr hlocks hP hD hS d_Or_hasBit_14
def rm_Or_beginning : Room := { frames := 0, cells := 0, slots := 0, locals := 0 }
set_option maxHeartbeats 4000000 in
set_option maxRecDepth 100000 in
theorem w_Or_beginning_4 {p : Program} {l : Launch} {e : Env} {s : State} {m : MethodId} {args : Array Value} {below : List Frame} {meth : Method} {c : Code} {D : va_G} {cT : Nat → ClassId} {A : Nat → Prop} (S : CallFix p m c b_Or_beginning 4 s args TB R_Or) (hr : meth.sig.returnType = (some .int)) (hlocks : meth.locks = false) (hE : EN D cT s) (hA : ∀ q, s.heap.size ≤ q → A q) {p1 : Int32} {p2 : Int32} {rr : Int32} : ∀ (n : Nat) (x2 : Int32) (x3 : Int32), k_Or_beginning_4 p1 p2  n x2 x3 = some rr → ∀ (H : Heap) (locs : List Loc) (ls : Array Slot), va_P D classes [] H → va_D A [] → va_S A s.heap H locs → lv_has ls 4 [(2, .int x2), (3, .int x3)] → W p l e (headSpec (WS y_Or_beginning b_Or_beginning 4 (some .int)) rm_Or_beginning).room s m args below meth c H locs 0 0 (MQ below (qW D A [] (some (.int rr))) args s 0 0 A) (F0 m 4 ls []) := by
  obtain ⟨hx, hb, hml, hown, hts⟩ := id S
  have hK := hE.1
  have hN := hE.2
  intro n
  induction n with
  | zero =>
    intro x2 x3 hM
    rw [k_Or_beginning_4_z] at hM
    cases hM
  | succ n ih =>
    intro x2 x3 hM H locs ls hP hD hS hl
    rw [k_Or_beginning_4_s] at hM
    refine lv_iload_n hx hb d_Or_beginning_4 rfl (lv_at hl 1 rfl) ?_
    refine lv_bipush (v := 6) hx hb d_Or_beginning_5 (by decide) ?_
    refine lv_icmp_ge (tgt := 21) hx hb d_Or_beginning_7 (by decide) (fun c_7 => ?_) (fun c_7 => ?_)
    · have hM := itT hM c_7
      refine lv_iload_n hx hb d_Or_beginning_21 rfl (lv_at hl 0 rfl) ?_
      have eo0 := Option.some.inj hM
      subst eo0
      exact rt_i S hr hlocks hP hD hS d_Or_beginning_22
    · have hM := itF hM c_7
      refine lv_iload_n hx hb d_Or_beginning_10 rfl (lv_at hl 0 rfl) ?_
      refine lv_bipush (v := 10) hx hb d_Or_beginning_11 (by decide) ?_
      refine lv_idiv hx hb d_Or_beginning_13 (by decide) ?_
      refine lv_istore_n (lv' := [(2, .int (x2 / 10)), (3, .int x3)]) hx hb d_Or_beginning_14 rfl hl (by decide) rfl (fun ls hl => ?_)
      refine lv_iinc (v := x3 + 1) (lv' := [(3, .int (x3 + 1)), (2, .int (x2 / 10))]) hx hb d_Or_beginning_15 hl (k := 1) rfl rfl (by decide) rfl (fun ls hl => ?_)
      refine lv_goto (tgt := 4) hx hb d_Or_beginning_18 (by decide) ?_
      exact ih (x2 / 10) (x3 + 1) hM _ _ _ hP hD hS (lv_sub hl [1, 0] rfl)
set_option maxHeartbeats 4000000 in
set_option maxRecDepth 100000 in
theorem c_Or_beginning (l : Launch) (D : va_G) (cT : Nat → ClassId) (p1 : Int32) (p2 : Int32) {rr : Int32} (hM : m_Or_beginning p1 p2 = some rr) : Ct l y_Or_beginning (WS y_Or_beginning b_Or_beginning 4 (some .int)) rm_Or_beginning D cT [.int p1, .int p2] [] (some (.int rr)) [] 0 0 := by
  intro sz
  refine Met.ofW (cc := b_Or_beginning) (maxL := 4) (ret := (some .int)) (by decide) rfl ?_
  intro p e s m args below meth c s₁ B hml hv
  obtain ⟨rfl, hsz, hP, hE, hD0⟩ := hv
  have hx := B.exec
  have hb := B.bytes
  have hr := B.returns
  have hts : ∀ w ∈ TB, w.before _ s = true := fun w h => atoms_spec (ws := WS y_Or_beginning b_Or_beginning 4 (some .int)) B.pre w (List.mem_cons_of_mem _ h)
  have hown : s.vm.findClass R_Or = some m.cls := findClass_of_methodNamed B.named
  have hlocks := B.notSynchronized
  have hK := hE.1
  have hN := hE.2
  subst hsz
  have hD := hD0.self (sz := s.heap.size)
  generalize hAe : va_A [] s.heap.size = A at hD ⊢
  have hA : ∀ q : Nat, s.heap.size ≤ q → A q := fun q h => by rw [← hAe]; exact Or.inr h
  have hS : va_S A s.heap s.heap [] := va_S.rf
  have hl := lv_entry ([.int p1, .int p2]) (n := 4) (Nat.le_of_ble_eq_true rfl)
  rw [lg_entry_eq]
  generalize (lg_sl ([.int p1, .int p2]) ++ List.replicate (4 - (lg_sl ([.int p1, .int p2])).length) Slot.unset).toArray = ls at hl ⊢
  have hl : lv_has ls 4 [(0, .int p1), (1, .int p2)] := hl
  have S : CallFix p m c b_Or_beginning 4 s _ TB R_Or := ⟨hx, hb, hml, hown, hts⟩
  unfold m_Or_beginning at hM
  refine lv_iload_n hx hb d_Or_beginning_0 rfl (lv_at hl 0 rfl) ?_
  refine lv_istore_n (lv' := [(2, .int p1), (0, .int p1), (1, .int p2)]) hx hb d_Or_beginning_1 rfl hl (by decide) rfl (fun ls hl => ?_)
  refine lv_iload_n hx hb d_Or_beginning_2 rfl (lv_at hl 2 rfl) ?_
  refine lv_istore_n (lv' := [(3, .int p2), (2, .int p1), (0, .int p1), (1, .int p2)]) hx hb d_Or_beginning_3 rfl hl (by decide) rfl (fun ls hl => ?_)
  exact w_Or_beginning_4 S hr hlocks hE hA 2000 p1 p2 hM _ _ _ hP hD hS (lv_sub hl [1, 0] rfl)
def rm_Or_greatestDivisor : Room := { frames := 0, cells := 0, slots := 0, locals := 0 }
set_option maxHeartbeats 4000000 in
set_option maxRecDepth 100000 in
theorem w_Or_greatestDivisor_9 {p : Program} {l : Launch} {e : Env} {s : State} {m : MethodId} {args : Array Value} {below : List Frame} {meth : Method} {c : Code} {D : va_G} {cT : Nat → ClassId} {A : Nat → Prop} (S : CallFix p m c b_Or_greatestDivisor 11 s args TB R_Or) (hr : meth.sig.returnType = (some .long)) (hlocks : meth.locks = false) (hE : EN D cT s) (hA : ∀ q, s.heap.size ≤ q → A q) {p1 : Int64} {p2 : Int64} {rr : Int64} : ∀ (n : Nat) (x4 : Int64) (x6 : Int64) (x8 : Int32), k_Or_greatestDivisor_9 p1 p2  n x4 x6 x8 = some rr → ∀ (H : Heap) (locs : List Loc) (ls : Array Slot), va_P D classes [] H → va_D A [] → va_S A s.heap H locs → lv_has ls 11 [(4, .long x4), (6, .long x6), (8, .int x8)] → W p l e (headSpec (WS y_Or_greatestDivisor b_Or_greatestDivisor 11 (some .long)) rm_Or_greatestDivisor).room s m args below meth c H locs 0 0 (MQ below (qW D A [] (some (.long rr))) args s 0 0 A) (F0 m 9 ls []) := by
  obtain ⟨hx, hb, hml, hown, hts⟩ := id S
  have hK := hE.1
  have hN := hE.2
  intro n
  induction n with
  | zero =>
    intro x4 x6 x8 hM
    rw [k_Or_greatestDivisor_9_z] at hM
    cases hM
  | succ n ih =>
    intro x4 x6 x8 hM H locs ls hP hD hS hl
    rw [k_Or_greatestDivisor_9_s] at hM
    refine lv_iload hx hb d_Or_greatestDivisor_9 (lv_at hl 2 rfl) ?_
    refine lv_bipush (v := 100) hx hb d_Or_greatestDivisor_11 (by decide) ?_
    refine lv_icmp_ge (tgt := 44) hx hb d_Or_greatestDivisor_13 (by decide) (fun c_13 => ?_) (fun c_13 => ?_)
    · have hM := itT hM c_13
      refine lv_lload hx hb d_Or_greatestDivisor_44 (lv_at hl 0 rfl) ?_
      have eo0 := Option.some.inj hM
      subst eo0
      exact rt_j S hr hlocks hP hD hS d_Or_greatestDivisor_46
    · have hM := itF hM c_13
      refine lv_lload hx hb d_Or_greatestDivisor_16 (lv_at hl 1 rfl) ?_
      refine lv_lconst (v := 0) hx hb d_Or_greatestDivisor_18 (by decide) ?_
      refine W.lcmp hx hb d_Or_greatestDivisor_19 ?_
      refine lv_if_eq (tgt := 44) hx hb d_Or_greatestDivisor_20 (by decide) (fun c_20 => ?_) (fun c_20 => ?_)
      · have hM := itT hM c_20
        refine lv_lload hx hb d_Or_greatestDivisor_44 (lv_at hl 0 rfl) ?_
        have eo0 := Option.some.inj hM
        subst eo0
        exact rt_j S hr hlocks hP hD hS d_Or_greatestDivisor_46
      · have hM := itF hM c_20
        refine lv_lload hx hb d_Or_greatestDivisor_23 (lv_at hl 0 rfl) ?_
        refine lv_lload hx hb d_Or_greatestDivisor_25 (lv_at hl 1 rfl) ?_
        obtain ⟨hz_27, hM⟩ := nzTJ hM
        refine lv_lrem hx hb d_Or_greatestDivisor_27 hz_27 ?_
        refine lv_lstore (lv' := [(9, .long (x4 - x4 / x6 * x6)), (4, .long x4), (6, .long x6), (8, .int x8)]) hx hb d_Or_greatestDivisor_28 hl (by decide) rfl (fun ls hl => ?_)
        refine lv_lload hx hb d_Or_greatestDivisor_30 (lv_at hl 2 rfl) ?_
        refine lv_lstore (lv' := [(4, .long x6), (9, .long (x4 - x4 / x6 * x6)), (6, .long x6), (8, .int x8)]) hx hb d_Or_greatestDivisor_32 hl (by decide) rfl (fun ls hl => ?_)
        refine lv_lload hx hb d_Or_greatestDivisor_34 (lv_at hl 1 rfl) ?_
        refine lv_lstore (lv' := [(6, .long (x4 - x4 / x6 * x6)), (4, .long x6), (9, .long (x4 - x4 / x6 * x6)), (8, .int x8)]) hx hb d_Or_greatestDivisor_36 hl (by decide) rfl (fun ls hl => ?_)
        refine lv_iinc (v := x8 + 1) (lv' := [(8, .int (x8 + 1)), (6, .long (x4 - x4 / x6 * x6)), (4, .long x6), (9, .long (x4 - x4 / x6 * x6))]) hx hb d_Or_greatestDivisor_38 hl (k := 3) rfl rfl (by decide) rfl (fun ls hl => ?_)
        refine lv_goto (tgt := 9) hx hb d_Or_greatestDivisor_41 (by decide) ?_
        exact ih x6 (x4 - x4 / x6 * x6) (x8 + 1) hM _ _ _ hP hD hS (lv_sub hl [2, 1, 0] rfl)
set_option maxHeartbeats 4000000 in
set_option maxRecDepth 100000 in
theorem c_Or_greatestDivisor (l : Launch) (D : va_G) (cT : Nat → ClassId) (p1 : Int64) (p2 : Int64) {rr : Int64} (hM : m_Or_greatestDivisor p1 p2 = some rr) : Ct l y_Or_greatestDivisor (WS y_Or_greatestDivisor b_Or_greatestDivisor 11 (some .long)) rm_Or_greatestDivisor D cT [.long p1, .long p2] [] (some (.long rr)) [] 0 0 := by
  intro sz
  refine Met.ofW (cc := b_Or_greatestDivisor) (maxL := 11) (ret := (some .long)) (by decide) rfl ?_
  intro p e s m args below meth c s₁ B hml hv
  obtain ⟨rfl, hsz, hP, hE, hD0⟩ := hv
  have hx := B.exec
  have hb := B.bytes
  have hr := B.returns
  have hts : ∀ w ∈ TB, w.before _ s = true := fun w h => atoms_spec (ws := WS y_Or_greatestDivisor b_Or_greatestDivisor 11 (some .long)) B.pre w (List.mem_cons_of_mem _ h)
  have hown : s.vm.findClass R_Or = some m.cls := findClass_of_methodNamed B.named
  have hlocks := B.notSynchronized
  have hK := hE.1
  have hN := hE.2
  subst hsz
  have hD := hD0.self (sz := s.heap.size)
  generalize hAe : va_A [] s.heap.size = A at hD ⊢
  have hA : ∀ q : Nat, s.heap.size ≤ q → A q := fun q h => by rw [← hAe]; exact Or.inr h
  have hS : va_S A s.heap s.heap [] := va_S.rf
  have hl := lv_entry ([.long p1, .long p2]) (n := 11) (Nat.le_of_ble_eq_true rfl)
  rw [lg_entry_eq]
  generalize (lg_sl ([.long p1, .long p2]) ++ List.replicate (11 - (lg_sl ([.long p1, .long p2])).length) Slot.unset).toArray = ls at hl ⊢
  have hl : lv_has ls 11 [(0, .long p1), (2, .long p2)] := hl
  have S : CallFix p m c b_Or_greatestDivisor 11 s _ TB R_Or := ⟨hx, hb, hml, hown, hts⟩
  unfold m_Or_greatestDivisor at hM
  refine lv_lload_n hx hb d_Or_greatestDivisor_0 rfl (lv_at hl 0 rfl) ?_
  refine lv_lstore (lv' := [(4, .long p1), (0, .long p1), (2, .long p2)]) hx hb d_Or_greatestDivisor_1 hl (by decide) rfl (fun ls hl => ?_)
  refine lv_lload_n hx hb d_Or_greatestDivisor_3 rfl (lv_at hl 2 rfl) ?_
  refine lv_lstore (lv' := [(6, .long p2), (4, .long p1), (0, .long p1), (2, .long p2)]) hx hb d_Or_greatestDivisor_4 hl (by decide) rfl (fun ls hl => ?_)
  refine lv_iconst (v := 0) hx hb d_Or_greatestDivisor_6 (by decide) ?_
  refine lv_istore (lv' := [(8, .int 0), (6, .long p2), (4, .long p1), (0, .long p1), (2, .long p2)]) hx hb d_Or_greatestDivisor_7 hl (by decide) rfl (fun ls hl => ?_)
  exact w_Or_greatestDivisor_9 S hr hlocks hE hA 2000 p1 p2 0 hM _ _ _ hP hD hS (lv_sub hl [2, 1, 0] rfl)
