-- CALLS OF METHODS WITH ONE ANSWER; booleans; pictures of rows and strips
abbrev dt (r : Option Value) (M' : xM) : Option Value → xM → Prop := fun r0 M0 => r0 = r ∧ M0 = M'
def bz (b : Bool) : Int32 := if b = true then 1 else 0
theorem bz_t : bz true = 1 := rfl
theorem bz_f : bz false = 0 := rfl
theorem bz_0 {b : Bool} : bz b = 0 ↔ b = false := by cases b <;> simp [bz]
theorem bz_n0 {b : Bool} : ¬ bz b = 0 ↔ b = true := by cases b <;> simp [bz]
theorem bz_1 {b : Bool} : bz b = 1 ↔ b = true := by cases b <;> simp [bz]
theorem narrow_bz {b : Bool} : narrow .boolean (.int (bz b)) = .int (bz b) := by cases b <;> rfl
section DT
variable {F G : xF} {cs ss : Nat} {pc : Nat} {M M' : xM} {post post' : Option Value → xM → Prop} {lv : List (Nat × Value)}
theorem aw_callVx {b ci i n : Nat} {stk : List Value} (As : List Value) (st : List Value) (hs : Sp G (.ref b :: As) M post') (hd : decode F.2.1 pc = .ok (.invokevirtual i, 3)) (hl : xML F.1.cls i G.1 G.2.1 G.2.2.1 G.2.2.2.1 n) (hi : Cond.instanceMethod G.1 ∈ gt ∧ Cond.selects G.1.cls G.1 G.1 ∈ gt) (hb : mS M b = (0, ci)) (hbn : b < mN M) (hc : vwCl[ci]?.map (fun q => q.1) = some G.1.cls) (hn : As.length = n) (hdp : G.2.2.2.2.2.2.1 + 1 ≤ F.2.2.2.2.2.2.1) (hal : G.2.2.2.2.2.1 = F.2.2.2.2.2.1) (hst : stk = As.reverse ++ .ref b :: st) (hw : (st.map fun v => v.category).sum ≤ 8) (hz1 : G.2.2.2.2.2.2.2.1 = 0) (hz2 : G.2.2.2.2.2.2.2.2 = 0) (hk1 : cs ≤ F.2.2.2.2.2.2.2.1) (hk2 : ss ≤ F.2.2.2.2.2.2.2.2)
    (k : ∀ r M', post' r M' → AW F (pc + 3) lv (r.toList ++ st) M' cs ss post) : AW F pc lv stk M cs ss post := by
  refine aw_callV As st hs hd hl hi hb hbn hc hn hdp hal hst hw (by rw [hz1]; exact hk1) (by rw [hz2]; exact hk2) (fun r M' h => ?_)
  rw [hz1, hz2]
  exact k r M' h
theorem aw_callSx {i n : Nat} {stk : List Value} (As : List Value) (st : List Value) (hs : Sp G As M post') (hd : decode F.2.1 pc = .ok (.invokestatic i, 3)) (hl : xML F.1.cls i G.1 G.2.1 G.2.2.1 G.2.2.2.1 n) (hi : Cond.static G.1 ∈ gt) (hn : As.length = n) (hdp : G.2.2.2.2.2.2.1 + 1 ≤ F.2.2.2.2.2.2.1) (hal : G.2.2.2.2.2.1 = F.2.2.2.2.2.1) (hst : stk = As.reverse ++ st) (hw : (st.map fun v => v.category).sum ≤ 8) (hz1 : G.2.2.2.2.2.2.2.1 = 0) (hz2 : G.2.2.2.2.2.2.2.2 = 0) (hk1 : cs ≤ F.2.2.2.2.2.2.2.1) (hk2 : ss ≤ F.2.2.2.2.2.2.2.2)
    (k : ∀ r M', post' r M' → AW F (pc + 3) lv (r.toList ++ st) M' cs ss post) : AW F pc lv stk M cs ss post := by
  refine aw_callS As st hs hd hl hi hn hdp hal hst hw (by rw [hz1]; exact hk1) (by rw [hz2]; exact hk2) (fun r M' h => ?_)
  rw [hz1, hz2]
  exact k r M' h
theorem aw_callVi {x : Int32} {b ci i n : Nat} {stk : List Value} (As : List Value) (st : List Value) (hs : Sp G (.ref b :: As) M (dt (some (.int x)) M')) (hd : decode F.2.1 pc = .ok (.invokevirtual i, 3)) (hl : xML F.1.cls i G.1 G.2.1 G.2.2.1 G.2.2.2.1 n) (hi : Cond.instanceMethod G.1 ∈ gt ∧ Cond.selects G.1.cls G.1 G.1 ∈ gt) (hb : mS M b = (0, ci)) (hbn : b < mN M) (hc : vwCl[ci]?.map (fun q => q.1) = some G.1.cls) (hn : As.length = n) (hdp : G.2.2.2.2.2.2.1 + 1 ≤ F.2.2.2.2.2.2.1) (hal : G.2.2.2.2.2.1 = F.2.2.2.2.2.1) (hst : stk = As.reverse ++ .ref b :: st) (hw : (st.map fun v => v.category).sum ≤ 8) (hz1 : G.2.2.2.2.2.2.2.1 = 0) (hz2 : G.2.2.2.2.2.2.2.2 = 0) (hk1 : cs ≤ F.2.2.2.2.2.2.2.1) (hk2 : ss ≤ F.2.2.2.2.2.2.2.2)
    (k : AW F (pc + 3) lv (.int x :: st) M' cs ss post) : AW F pc lv stk M cs ss post := by
  refine aw_callVx As st hs hd hl hi hb hbn hc hn hdp hal hst hw hz1 hz2 hk1 hk2 (fun r M2 h => ?_)
  obtain ⟨rfl, rfl⟩ := h
  exact k
theorem aw_callSi {x : Int32} {i n : Nat} {stk : List Value} (As : List Value) (st : List Value) (hs : Sp G As M (dt (some (.int x)) M')) (hd : decode F.2.1 pc = .ok (.invokestatic i, 3)) (hl : xML F.1.cls i G.1 G.2.1 G.2.2.1 G.2.2.2.1 n) (hi : Cond.static G.1 ∈ gt) (hn : As.length = n) (hdp : G.2.2.2.2.2.2.1 + 1 ≤ F.2.2.2.2.2.2.1) (hal : G.2.2.2.2.2.1 = F.2.2.2.2.2.1) (hst : stk = As.reverse ++ st) (hw : (st.map fun v => v.category).sum ≤ 8) (hz1 : G.2.2.2.2.2.2.2.1 = 0) (hz2 : G.2.2.2.2.2.2.2.2 = 0) (hk1 : cs ≤ F.2.2.2.2.2.2.2.1) (hk2 : ss ≤ F.2.2.2.2.2.2.2.2)
    (k : AW F (pc + 3) lv (.int x :: st) M' cs ss post) : AW F pc lv stk M cs ss post := by
  refine aw_callSx As st hs hd hl hi hn hdp hal hst hw hz1 hz2 hk1 hk2 (fun r M2 h => ?_)
  obtain ⟨rfl, rfl⟩ := h
  exact k
theorem aw_callVl {x : Int64} {b ci i n : Nat} {stk : List Value} (As : List Value) (st : List Value) (hs : Sp G (.ref b :: As) M (dt (some (.long x)) M')) (hd : decode F.2.1 pc = .ok (.invokevirtual i, 3)) (hl : xML F.1.cls i G.1 G.2.1 G.2.2.1 G.2.2.2.1 n) (hi : Cond.instanceMethod G.1 ∈ gt ∧ Cond.selects G.1.cls G.1 G.1 ∈ gt) (hb : mS M b = (0, ci)) (hbn : b < mN M) (hc : vwCl[ci]?.map (fun q => q.1) = some G.1.cls) (hn : As.length = n) (hdp : G.2.2.2.2.2.2.1 + 1 ≤ F.2.2.2.2.2.2.1) (hal : G.2.2.2.2.2.1 = F.2.2.2.2.2.1) (hst : stk = As.reverse ++ .ref b :: st) (hw : (st.map fun v => v.category).sum ≤ 8) (hz1 : G.2.2.2.2.2.2.2.1 = 0) (hz2 : G.2.2.2.2.2.2.2.2 = 0) (hk1 : cs ≤ F.2.2.2.2.2.2.2.1) (hk2 : ss ≤ F.2.2.2.2.2.2.2.2)
    (k : AW F (pc + 3) lv (.long x :: st) M' cs ss post) : AW F pc lv stk M cs ss post := by
  refine aw_callVx As st hs hd hl hi hb hbn hc hn hdp hal hst hw hz1 hz2 hk1 hk2 (fun r M2 h => ?_)
  obtain ⟨rfl, rfl⟩ := h
  exact k
theorem aw_callSl {x : Int64} {i n : Nat} {stk : List Value} (As : List Value) (st : List Value) (hs : Sp G As M (dt (some (.long x)) M')) (hd : decode F.2.1 pc = .ok (.invokestatic i, 3)) (hl : xML F.1.cls i G.1 G.2.1 G.2.2.1 G.2.2.2.1 n) (hi : Cond.static G.1 ∈ gt) (hn : As.length = n) (hdp : G.2.2.2.2.2.2.1 + 1 ≤ F.2.2.2.2.2.2.1) (hal : G.2.2.2.2.2.1 = F.2.2.2.2.2.1) (hst : stk = As.reverse ++ st) (hw : (st.map fun v => v.category).sum ≤ 8) (hz1 : G.2.2.2.2.2.2.2.1 = 0) (hz2 : G.2.2.2.2.2.2.2.2 = 0) (hk1 : cs ≤ F.2.2.2.2.2.2.2.1) (hk2 : ss ≤ F.2.2.2.2.2.2.2.2)
    (k : AW F (pc + 3) lv (.long x :: st) M' cs ss post) : AW F pc lv stk M cs ss post := by
  refine aw_callSx As st hs hd hl hi hn hdp hal hst hw hz1 hz2 hk1 hk2 (fun r M2 h => ?_)
  obtain ⟨rfl, rfl⟩ := h
  exact k
theorem aw_callVd {x : UInt64} {b ci i n : Nat} {stk : List Value} (As : List Value) (st : List Value) (hs : Sp G (.ref b :: As) M (dt (some (.double x)) M')) (hd : decode F.2.1 pc = .ok (.invokevirtual i, 3)) (hl : xML F.1.cls i G.1 G.2.1 G.2.2.1 G.2.2.2.1 n) (hi : Cond.instanceMethod G.1 ∈ gt ∧ Cond.selects G.1.cls G.1 G.1 ∈ gt) (hb : mS M b = (0, ci)) (hbn : b < mN M) (hc : vwCl[ci]?.map (fun q => q.1) = some G.1.cls) (hn : As.length = n) (hdp : G.2.2.2.2.2.2.1 + 1 ≤ F.2.2.2.2.2.2.1) (hal : G.2.2.2.2.2.1 = F.2.2.2.2.2.1) (hst : stk = As.reverse ++ .ref b :: st) (hw : (st.map fun v => v.category).sum ≤ 8) (hz1 : G.2.2.2.2.2.2.2.1 = 0) (hz2 : G.2.2.2.2.2.2.2.2 = 0) (hk1 : cs ≤ F.2.2.2.2.2.2.2.1) (hk2 : ss ≤ F.2.2.2.2.2.2.2.2)
    (k : AW F (pc + 3) lv (.double x :: st) M' cs ss post) : AW F pc lv stk M cs ss post := by
  refine aw_callVx As st hs hd hl hi hb hbn hc hn hdp hal hst hw hz1 hz2 hk1 hk2 (fun r M2 h => ?_)
  obtain ⟨rfl, rfl⟩ := h
  exact k
theorem aw_callSd {x : UInt64} {i n : Nat} {stk : List Value} (As : List Value) (st : List Value) (hs : Sp G As M (dt (some (.double x)) M')) (hd : decode F.2.1 pc = .ok (.invokestatic i, 3)) (hl : xML F.1.cls i G.1 G.2.1 G.2.2.1 G.2.2.2.1 n) (hi : Cond.static G.1 ∈ gt) (hn : As.length = n) (hdp : G.2.2.2.2.2.2.1 + 1 ≤ F.2.2.2.2.2.2.1) (hal : G.2.2.2.2.2.1 = F.2.2.2.2.2.1) (hst : stk = As.reverse ++ st) (hw : (st.map fun v => v.category).sum ≤ 8) (hz1 : G.2.2.2.2.2.2.2.1 = 0) (hz2 : G.2.2.2.2.2.2.2.2 = 0) (hk1 : cs ≤ F.2.2.2.2.2.2.2.1) (hk2 : ss ≤ F.2.2.2.2.2.2.2.2)
    (k : AW F (pc + 3) lv (.double x :: st) M' cs ss post) : AW F pc lv stk M cs ss post := by
  refine aw_callSx As st hs hd hl hi hn hdp hal hst hw hz1 hz2 hk1 hk2 (fun r M2 h => ?_)
  obtain ⟨rfl, rfl⟩ := h
  exact k
theorem aw_callVv {b ci i n : Nat} {stk : List Value} (As : List Value) (st : List Value) (hs : Sp G (.ref b :: As) M (dt (none) M')) (hd : decode F.2.1 pc = .ok (.invokevirtual i, 3)) (hl : xML F.1.cls i G.1 G.2.1 G.2.2.1 G.2.2.2.1 n) (hi : Cond.instanceMethod G.1 ∈ gt ∧ Cond.selects G.1.cls G.1 G.1 ∈ gt) (hb : mS M b = (0, ci)) (hbn : b < mN M) (hc : vwCl[ci]?.map (fun q => q.1) = some G.1.cls) (hn : As.length = n) (hdp : G.2.2.2.2.2.2.1 + 1 ≤ F.2.2.2.2.2.2.1) (hal : G.2.2.2.2.2.1 = F.2.2.2.2.2.1) (hst : stk = As.reverse ++ .ref b :: st) (hw : (st.map fun v => v.category).sum ≤ 8) (hz1 : G.2.2.2.2.2.2.2.1 = 0) (hz2 : G.2.2.2.2.2.2.2.2 = 0) (hk1 : cs ≤ F.2.2.2.2.2.2.2.1) (hk2 : ss ≤ F.2.2.2.2.2.2.2.2)
    (k : AW F (pc + 3) lv (st) M' cs ss post) : AW F pc lv stk M cs ss post := by
  refine aw_callVx As st hs hd hl hi hb hbn hc hn hdp hal hst hw hz1 hz2 hk1 hk2 (fun r M2 h => ?_)
  obtain ⟨rfl, rfl⟩ := h
  exact k
theorem aw_callSv {i n : Nat} {stk : List Value} (As : List Value) (st : List Value) (hs : Sp G As M (dt (none) M')) (hd : decode F.2.1 pc = .ok (.invokestatic i, 3)) (hl : xML F.1.cls i G.1 G.2.1 G.2.2.1 G.2.2.2.1 n) (hi : Cond.static G.1 ∈ gt) (hn : As.length = n) (hdp : G.2.2.2.2.2.2.1 + 1 ≤ F.2.2.2.2.2.2.1) (hal : G.2.2.2.2.2.1 = F.2.2.2.2.2.1) (hst : stk = As.reverse ++ st) (hw : (st.map fun v => v.category).sum ≤ 8) (hz1 : G.2.2.2.2.2.2.2.1 = 0) (hz2 : G.2.2.2.2.2.2.2.2 = 0) (hk1 : cs ≤ F.2.2.2.2.2.2.2.1) (hk2 : ss ≤ F.2.2.2.2.2.2.2.2)
    (k : AW F (pc + 3) lv (st) M' cs ss post) : AW F pc lv stk M cs ss post := by
  refine aw_callSx As st hs hd hl hi hn hdp hal hst hw hz1 hz2 hk1 hk2 (fun r M2 h => ?_)
  obtain ⟨rfl, rfl⟩ := h
  exact k
theorem aw_cons {v : Value} {st : List Value} (k : AW F pc lv (v :: st) M cs ss post) : AW F pc lv ((some v).toList ++ st) M cs ss post := k
theorem aw_nil {st : List Value} (k : AW F pc lv st M cs ss post) : AW F pc lv ((none : Option Value).toList ++ st) M cs ss post := k
end DT
theorem Sp.weaken {F : xF} {args : List Value} {M : xM} {post post' : Option Value → xM → Prop} (h : Sp F args M post') (hp : ∀ r M', post' r M' → post r M') : Sp F args M post := by
  intro K l
  intro p e ha hc hk s m a below hf happ hP hT
  obtain ⟨t, o, h1, h2, h3, ⟨⟨r, M', q1, q2, q3⟩, q4⟩, h5⟩ := h K l p e ha hc hk s m a below hf happ hP hT
  exact ⟨t, o, h1, h2, h3, ⟨⟨r, M', q1, hp r M' q2, q3⟩, q4⟩, h5⟩
-- pictures
def RowAt (M : xM) (a : Nat) : Prop := mS M a = (0, 1) ∧ mS M (a + 1) = (1, 12) ∧ mS M (a + 2) = (2, 12) ∧ mR M a 2 = some (a + 1) ∧ mR M a 3 = some (a + 2) ∧ a + 2 < mN M
def StripAt (M : xM) (a n : Nat) : Prop := mS M a = (0, 2) ∧ mS M (a + 1) = (1, n) ∧ mR M a 0 = some (a + 1) ∧ a + 1 < mN M
theorem RowAt.n0 {M : xM} {a : Nat} (h : RowAt M a) : a < mN M := by have := h.2.2.2.2.2; omega
theorem RowAt.n1 {M : xM} {a : Nat} (h : RowAt M a) : a + 1 < mN M := by have := h.2.2.2.2.2; omega
theorem RowAt.n2 {M : xM} {a : Nat} (h : RowAt M a) : a + 2 < mN M := h.2.2.2.2.2
theorem StripAt.n0 {M : xM} {a n : Nat} (h : StripAt M a n) : a < mN M := by have := h.2.2.2; omega
theorem StripAt.n1 {M : xM} {a n : Nat} (h : StripAt M a n) : a + 1 < mN M := h.2.2.2
theorem pn_X0 : plainName RX0 = true := by decide +kernel
theorem pn_X1 : plainName RX1 = true := by decide +kernel
theorem pn_X2 : plainName RX2 = true := by decide +kernel
theorem pn_X3 : plainName RX3 = true := by decide +kernel
theorem pn_X4 : plainName RX4 = true := by decide +kernel
theorem pn_X5 : plainName RX5 = true := by decide +kernel
theorem pn_X6 : plainName RX6 = true := by decide +kernel
theorem pn_J6 : plainName RJ6 = true := by decide +kernel
theorem pn_J13 : plainName RJ13 = true := by decide +kernel
theorem dl1 {d : Nat} (h : 1 ≤ d) : d - 1 + 1 ≤ d := by omega
