theorem h00 : (0 : Int32).toNatClampNeg = 0 := by decide
theorem ix01 {α : Type} {k : Option α} : ixg (0 : Int32) 1 k = k := ix_ok (n := 0) (by omega) (by omega)
theorem cmp_self (x : Int64) : lg_cmp x x = 0 := (lg_cmp_eq x x).mpr rfl
theorem l_part {p q : Int32} {r : Int64} {psz parts th : Int32} {pcd pld pc pl : Nat → Int32} {pct pv uout : Nat → Int64} (h : JP psz pcd pld pct parts pc pl pv) :
    (∃ kk z, ¬ kk = 0 ∧ m_Law_part p q r psz pcd pld pct uout = some (kk, psz, pcd, pld, pct, uout) ∧ m_Md_part p q r th parts pc pl pv = some (z, kk, parts, pc, pl, pv)) ∨
    (∃ z psz' pcd' pld' pct' parts' pc' pl' pv', m_Law_part p q r psz pcd pld pct uout = some (0, psz', pcd', pld', pct', vp_updL uout 0 z.toInt64) ∧ m_Md_part p q r th parts pc pl pv = some (z, 0, parts', pc', pl', pv') ∧ JP psz' pcd' pld' pct' parts' pc' pl' pv') := by
  unfold m_Law_part
  rcases s_part (p := p) (q := q) (r := r) (th := th) h with ⟨e, k, h1, h2, z, h3⟩ | ⟨z, psz', pcd', pld', pct', parts', pc', pl', pv', h1, h2, h3⟩
  · rw [h1]
    rcases h2 with ⟨rfl, rfl⟩ | ⟨rfl, rfl⟩
    · exact Or.inl ⟨1, z, by decide, rfl, h3⟩
    · exact Or.inl ⟨2, z, by decide, rfl, h3⟩
  · rw [h1]
    exact Or.inr ⟨z, psz', pcd', pld', pct', parts', pc', pl', pv', ix01, h2, h3⟩
theorem l_proof {p q r fsz proofs th : Int32} {fkd ffr fto pk pf pt : Nat → Int32} {uout : Nat → Int64} (h : JF fsz fkd ffr fto proofs pk pf pt) :
    (∃ kk z, ¬ kk = 0 ∧ m_Law_proof p q r fsz fkd ffr fto uout = some (kk, fsz, fkd, ffr, fto, uout) ∧ m_Md_proof p q r th proofs pk pf pt = some (z, kk, proofs, pk, pf, pt)) ∨
    (∃ z fsz' fkd' ffr' fto' proofs' pk' pf' pt', m_Law_proof p q r fsz fkd ffr fto uout = some (0, fsz', fkd', ffr', fto', vp_updL uout 0 z.toInt64) ∧ m_Md_proof p q r th proofs pk pf pt = some (z, 0, proofs', pk', pf', pt') ∧ JF fsz' fkd' ffr' fto' proofs' pk' pf' pt') := by
  unfold m_Law_proof
  rcases s_proof (p := p) (q := q) (r := r) (th := th) h with ⟨e, k, h1, h2, z, h3⟩ | ⟨z, a1, a2, a3, a4, a5, a6, a7, a8, h1, h2, h3⟩
  · rw [h1]
    rcases h2 with ⟨rfl, rfl⟩ | ⟨rfl, rfl⟩
    · exact Or.inl ⟨1, z, by decide, rfl, h3⟩
    · exact Or.inl ⟨2, z, by decide, rfl, h3⟩
  · rw [h1]
    exact Or.inr ⟨z, a1, a2, a3, a4, a5, a6, a7, a8, ix01, h2, h3⟩
theorem l_share {p : Int64} {q psz parts lpr pairs th : Int32} {lful full : Bool} {ljn joined pcd pld pc pl : Nat → Int32} {pct pv uout : Nat → Int64}
    (hP : JP psz pcd pld pct parts pc pl pv) (hL : JL lpr lful ljn pairs full joined) :
    (∃ kk z, ¬ kk = 0 ∧ m_Law_share p q psz pld pct lful ljn uout = some (kk, uout) ∧ m_Md_share p q parts full pl pv joined th = some (z, kk)) ∨
    (∃ z, m_Law_share p q psz pld pct lful ljn uout = some (0, vp_updL uout 0 z) ∧ m_Md_share p q parts full pl pv joined th = some (z, 0)) := by
  unfold m_Law_share
  rcases s_share (p := p) (q := q) (th := th) hP hL with ⟨e, k, h1, h2, z, h3⟩ | ⟨z, h1, h2⟩
  · rw [h1]
    rcases h2 with ⟨rfl, rfl⟩ | ⟨rfl, rfl⟩
    · exact Or.inl ⟨1, z, by decide, rfl, h3⟩
    · exact Or.inl ⟨2, z, by decide, rfl, h3⟩
  · rw [h1]
    exact Or.inr ⟨z, ix01, h2⟩
theorem l_join {p q lpr pairs th : Int32} {lful full : Bool} {ljn joined : Nat → Int32} {uout : Nat → Int64} (h : JL lpr lful ljn pairs full joined) :
    (∃ kk z, ¬ kk = 0 ∧ m_Law_join p q lpr ljn uout = some (kk, lpr, ljn, uout) ∧ m_Md_join p q th pairs joined = some (z, kk, pairs, joined)) ∨
    (∃ z lpr' ljn' pairs' joined', m_Law_join p q lpr ljn uout = some (0, lpr', ljn', vp_updL uout 0 z.toInt64) ∧ m_Md_join p q th pairs joined = some (z, 0, pairs', joined') ∧ JL lpr' lful ljn' pairs' full joined') := by
  unfold m_Law_join
  rcases s_join (p := p) (q := q) (th := th) h with ⟨h1, z, h3⟩ | ⟨z, a1, a2, a3, a4, h1, h2, h3⟩
  · rw [h1]
    exact Or.inl ⟨1, z, by decide, rfl, h3⟩
  · rw [h1]
    exact Or.inr ⟨z, a1, a2, a3, a4, ix01, h2, h3⟩
theorem l_verdict {p : Int32} {q : Int64} {done brd tup tdn psz parts up down lpr pairs rlen rsz rows askd asked th : Int32} {rsg pcd pld ljn read begins pc pl joined answ told live any all : Nat → Int32} {pct pv uout : Nat → Int64} {lful full : Bool}
    (hR : JR rlen rsz rsg rows read begins) (hP : JP psz pcd pld pct parts pc pl pv) (hL : JL lpr lful ljn pairs full joined) (hO : JO tup tdn up down) (hW : JW askd answ asked told) :
    (∃ kk z, ¬ kk = 0 ∧ m_Law_verdict p q done brd tup tdn rlen rsg psz pcd pld pct lful ljn askd answ uout = some (kk, askd, answ, uout) ∧ m_Md_verdict p q rows parts done brd full up down read begins pc pl pv joined th asked told live any all = some (z, kk, asked, told, live, any, all)) ∨
    (∃ z askd' answ' asked' told' live' any' all', m_Law_verdict p q done brd tup tdn rlen rsg psz pcd pld pct lful ljn askd answ uout = some (0, askd', answ', vp_updL uout 0 z.toInt64) ∧ m_Md_verdict p q rows parts done brd full up down read begins pc pl pv joined th asked told live any all = some (z, 0, asked', told', live', any', all') ∧ JW askd' answ' asked' told') := by
  unfold m_Law_verdict
  rcases s_verdict (p := p) (q := q) (done := done) (brd := brd) (th := th) (live := live) (any := any) (all := all) hR hP hL hO hW with ⟨h1, z, h3⟩ | ⟨z, a1, a2, a3, a4, a5, a6, a7, h1, h2, h3⟩
  · rw [h1]
    exact Or.inl ⟨1, z, by decide, rfl, h3⟩
  · rw [h1]
    exact Or.inr ⟨z, a1, a2, a3, a4, a5, a6, a7, ix01, h2, h3⟩
theorem l_good {p r fsz proofs th : Int32} {q : Int64} {fkd ffr fto pk pf pt : Nat → Int32} {uout : Nat → Int64} (h : JF fsz fkd ffr fto proofs pk pf pt) :
    (∃ kk z, ¬ kk = 0 ∧ m_Law_good p q r fsz fkd ffr fto uout = some (kk, uout) ∧ m_Md_good p q r proofs pk pf pt th = some (z, kk)) ∨
    (∃ z : Bool, m_Law_good p q r fsz fkd ffr fto uout = some (0, vp_updL uout 0 (if bI z = 0 then 0 else 1)) ∧ m_Md_good p q r proofs pk pf pt th = some (z, 0)) := by
  unfold m_Law_good
  rcases s_good (p := p) (q := q) (r := r) (th := th) h with ⟨h1, z, h3⟩ | ⟨z, h1, h2⟩
  · rw [h1]
    exact Or.inl ⟨1, z, by decide, rfl, h3⟩
  · rw [h1]
    refine Or.inr ⟨z, ?_, h2⟩
    cases z <;> exact ix01
theorem l_own {p lpr pairs th : Int32} {lful full : Bool} {ljn joined : Nat → Int32} {uout : Nat → Int64} (h : JL lpr lful ljn pairs full joined) :
    (∃ kk z, ¬ kk = 0 ∧ m_Law_own p lful ljn uout = some (kk, uout) ∧ m_Md_own p full joined th = some (z, kk)) ∨
    (∃ z : Bool, m_Law_own p lful ljn uout = some (0, vp_updL uout 0 (if bI z = 0 then 0 else 1)) ∧ m_Md_own p full joined th = some (z, 0)) := by
  unfold m_Law_own
  rcases s_own (p := p) (th := th) h with ⟨h1, z, h3⟩ | ⟨z, h1, h2⟩
  · rw [h1]
    exact Or.inl ⟨1, z, by decide, rfl, h3⟩
  · rw [h1]
    refine Or.inr ⟨z, ?_, h2⟩
    cases z <;> exact ix01
