-- ROWS OVER THE MEMORY: fields, arrays, statics, copies
theorem xcls0 : ∀ w ∈ u_ws RX1 TX1 6, w ∈ gt := by decide +kernel
theorem xcls1 : ∀ w ∈ u_ws RX2 TX2 4, w ∈ gt := by decide +kernel
theorem xcls2 : ∀ w ∈ u_ws RX3 TX3 2, w ∈ gt := by decide +kernel
theorem xcls3 : ∀ w ∈ u_ws RX4 TX4 5, w ∈ gt := by decide +kernel
theorem xcls4 : ∀ w ∈ u_ws RX5 TX5 14, w ∈ gt := by decide +kernel
theorem xcls5 : ∀ w ∈ u_ws RX6 TX6 33, w ∈ gt := by decide +kernel
theorem xcls {ci : Nat} {q : vw_C} (h : vwCl[ci]? = some q) : (∀ w ∈ u_ws q.1 q.2.1 q.2.2, w ∈ gt) ∧ q.2.2 = xnf ci ∧ (∀ k, k < q.2.2 → parseFieldDescriptor (q.2.1 k).2.2.1 = some (xty ci k)) ∧ (∀ a, a < q.2.2 → ∀ b, b < q.2.2 → a ≠ b → (q.2.1 a).2.1 ≠ (q.2.1 b).2.1) := by
  match ci, h with
  | 0, h => cases h; exact ⟨xcls0, rfl, tyX1_ok, nmX1⟩
  | 1, h => cases h; exact ⟨xcls1, rfl, tyX2_ok, nmX2⟩
  | 2, h => cases h; exact ⟨xcls2, rfl, tyX3_ok, nmX3⟩
  | 3, h => cases h; exact ⟨xcls3, rfl, tyX4_ok, nmX4⟩
  | 4, h => cases h; exact ⟨xcls4, rfl, tyX5_ok, nmX5⟩
  | 5, h => cases h; exact ⟨xcls5, rfl, tyX6_ok, nmX6⟩
  | k + 6, h => simp at h
def xFL (own : String) (i ci k : Nat) (ty : FieldType) (fin : Bool) : Prop := ∃ q : vw_C, vwCl[ci]? = some q ∧ k < q.2.2 ∧ Cond.fieldLink own i (q.2.1 k).1 (q.2.1 k).2.1 (q.2.1 k).2.2.1 ∈ gt ∧ xty ci k = ty ∧ (q.2.1 k).2.2.2 = fin ∧ (q.2.1 k).1 = q.1
theorem kad_lt {K : xK} {al : Bool} {M : xM} {H : Heap} (hP : xP K al M H) {a : Nat} (h : a < mN M) : kad K a = kB K + a := if_pos (Nat.lt_of_lt_of_le h hP.2.2.2)
theorem xfs_get (K : xK) (M : xM) (ci i : Nat) {k : Nat} (h : k < xnf ci) : (xfs K M ci i)[k]? = some (xfv K M (xty ci k) i k) := by simp [xfs, h]
section MW
variable {F : xF} {pc : Nat} {lv : List (Nat × Value)} {st : List Value} {M : xM} {cs ss : Nat} {post : Option Value → xM → Prop}
theorem aw_getI {i ci a kf : Nat} {fin : Bool} (hd : decode F.2.1 pc = .ok (.getfield i, 3)) (hf : xFL F.1.cls i ci kf .int fin) (ha : mS M a = (0, ci)) (hn : a < mN M) (k : AW F (pc + 3) lv (.int (mI M a kf) :: st) M cs ss post) : AW F pc lv (.ref a :: st) M cs ss post := by
  intro K p l e s m args below meth c H locs ls Q hF hP hS hl hk
  obtain ⟨q, hc, hkn, hlk, hty, -, -⟩ := hf
  obtain ⟨h1, h2, -, -⟩ := xcls hc
  show W p l e _ s m args below meth c H locs cs ss Q (F0 m pc ls (.ref (kad K a) :: st.map (cv K)))
  rw [kad_lt hP hn]
  refine va_get (v := .int (mI M a kf)) hF.1 hF.2.1 hF.2.2.2.2.2.1 h1 hF.2.2.2.2.1 hF.2.2.2.2.2.2.2.2.1.1 (hP.one hn (xcell0 ha)) 0 rfl hc kf hkn (hF.2.2.2.2.2.1 _ hlk) (fun _ h9 => h9) ?_ hd (k K p l e s m args below meth c H locs ls Q hF hP hS hl hk)
  rw [xfs_get K M ci a (by rw [← h2]; exact hkn), hty]
  rfl
theorem aw_getL {i ci a kf : Nat} {fin : Bool} (hd : decode F.2.1 pc = .ok (.getfield i, 3)) (hf : xFL F.1.cls i ci kf .long fin) (ha : mS M a = (0, ci)) (hn : a < mN M) (k : AW F (pc + 3) lv (.long (mL M a kf) :: st) M cs ss post) : AW F pc lv (.ref a :: st) M cs ss post := by
  intro K p l e s m args below meth c H locs ls Q hF hP hS hl hk
  obtain ⟨q, hc, hkn, hlk, hty, -, -⟩ := hf
  obtain ⟨h1, h2, -, -⟩ := xcls hc
  show W p l e _ s m args below meth c H locs cs ss Q (F0 m pc ls (.ref (kad K a) :: st.map (cv K)))
  rw [kad_lt hP hn]
  refine va_get (v := .long (mL M a kf)) hF.1 hF.2.1 hF.2.2.2.2.2.1 h1 hF.2.2.2.2.1 hF.2.2.2.2.2.2.2.2.1.1 (hP.one hn (xcell0 ha)) 0 rfl hc kf hkn (hF.2.2.2.2.2.1 _ hlk) (fun _ h9 => h9) ?_ hd (k K p l e s m args below meth c H locs ls Q hF hP hS hl hk)
  rw [xfs_get K M ci a (by rw [← h2]; exact hkn), hty]
  rfl
theorem aw_getR {i ci a kf b : Nat} {ty : FieldType} {fin : Bool} (hd : decode F.2.1 pc = .ok (.getfield i, 3)) (hf : xFL F.1.cls i ci kf ty fin) (hr : ty.isReference = true) (ha : mS M a = (0, ci)) (hn : a < mN M) (hb : mR M a kf = some b) (k : AW F (pc + 3) lv (.ref b :: st) M cs ss post) : AW F pc lv (.ref a :: st) M cs ss post := by
  intro K p l e s m args below meth c H locs ls Q hF hP hS hl hk
  obtain ⟨q, hc, hkn, hlk, hty, -, -⟩ := hf
  obtain ⟨h1, h2, -, -⟩ := xcls hc
  show W p l e _ s m args below meth c H locs cs ss Q (F0 m pc ls (.ref (kad K a) :: st.map (cv K)))
  rw [kad_lt hP hn]
  refine va_get (v := .ref (kad K b)) hF.1 hF.2.1 hF.2.2.2.2.2.1 h1 hF.2.2.2.2.1 hF.2.2.2.2.2.2.2.2.1.1 (hP.one hn (xcell0 ha)) 0 rfl hc kf hkn (hF.2.2.2.2.2.1 _ hlk) (fun _ h9 => h9) ?_ hd (k K p l e s m args below meth c H locs ls Q hF hP hS hl hk)
  rw [xfs_get K M ci a (by rw [← h2]; exact hkn), hty]
  unfold xfv
  rw [hb]
  cases ty <;> first | rfl | cases hr
end MW
-- what a store changes
theorem xcell_I {K : xK} {M : xM} {a k : Nat} {v : Int32} {j : Nat} (h : j ≠ a) : xcell K (stI M a k v) j = xcell K M j := by
  have e : mI (stI M a k v) j = mI M j := xup_n _ k v h
  unfold xcell xfs xfv
  rw [e]
  rfl
theorem xcell_L {K : xK} {M : xM} {a k : Nat} {v : Int64} {j : Nat} (h : j ≠ a) : xcell K (stL M a k v) j = xcell K M j := by
  have e : mL (stL M a k v) j = mL M j := xup_n _ k v h
  unfold xcell xfs xfv
  rw [e]
  rfl
theorem xcell_R {K : xK} {M : xM} {a k : Nat} {v : Option Nat} {j : Nat} (h : j ≠ a) : xcell K (stR M a k v) j = xcell K M j := by
  have e : mR (stR M a k v) j = mR M j := xup_n _ k v h
  unfold xcell xfs xfv
  rw [e]
  rfl
section MS
variable {F : xF} {K : xK} {p : Program} {l : Launch} {e : Env} {R : Room} {s : State} {m : MethodId} {args : Array Value} {below : List Frame} {meth : Method} {c : Code} {H : Heap} {locs : List Loc} {cells slots : Nat} {Q : State → Prop} {pc : Nat} {ls : Array Slot} {rest : List Value} {M M' : xM} {al : Bool}
/-- a field is set: any value -/
theorem xput {i ci a kf : Nat} {ty : FieldType} {fin : Bool} {v : Value} (hF : xFix F K p s m args meth c) (hP : xP K al M H) (hS : va_S (kA K) s.heap H locs) (hf : xFL F.1.cls i ci kf ty fin) (hfin : fin = false ∨ (F.2.2.2.2.1 = true ∧ vwCl[ci]?.map (fun q => q.1) = some F.1.cls)) (ha : mS M a = (0, ci)) (hn : a < mN M) (hnr : narrow ty v = v) (hfit : fits ty v = true)
    (hM1 : mN M' = mN M) (hM2 : mS M' a = mS M a) (hM3 : ∀ j, j ≠ a → xcell K M' j = xcell K M j) (hM4 : ∀ j, xfv K M' (xty ci j) a j = if j = kf then v else xfv K M (xty ci j) a j) (hd : decode F.2.1 pc = .ok (.putfield i, 3))
    (kk : ∀ (H' : Heap) (locs' : List Loc), xP K al M' H' → va_S (kA K) s.heap H' locs' → W p l e R s m args below meth c H' locs' cells slots Q (F0 m (pc + 3) ls rest)) : W p l e R s m args below meth c H locs cells slots Q (F0 m pc ls (v :: .ref (kad K a) :: rest)) := by
  obtain ⟨q, hc, hkn, hlk, hty, hfn, hdc⟩ := hf
  obtain ⟨g1, g2, g3, g4⟩ := xcls hc
  have hK := hF.2.2.2.2.2.2.2.2.1.1
  have hts := hF.2.2.2.2.2.1
  have hown := hF.2.2.2.2.1
  have hap := va_apart (own := F.1.cls) hts g1 (xty ci) g3 g4 hK hc
  rw [kad_lt hP hn]
  have hat := hP.1 a hn
  rw [xcell0 ha] at hat
  obtain ⟨r, h1, cell, q1, q2, q3, q4⟩ := hat
  have hr : r = q := Option.some.inj (h1.symm.trans hc)
  subst hr
  obtain ⟨hSl, hfc, kC, hkC, hkind⟩ := hK.1 ci _ hc
  obtain ⟨cf, kf', fi, f, hi, hsl⟩ := hSl kf hkn
  have hlay := hts _ (g1 _ (u_in_lay hkn))
  have hst := (u_facts hfc hkC (u_lays hts g1 hkn) hi).1
  have key : ∀ (H1 : Heap), H1[kB K + a]? = some (cell.setSlot f.slot v) → H1.size = H.size → (∀ q, q ≠ kB K + a → H1[q]? = H[q]?) → xP K al M' H1 := by
    intro H1 e1 e2 e3
    refine hP.set (i := a) hM1 hM3 ?_ e3 (fun _ => e2)
    rw [xcell0 (hM2.trans ha)]
    rw [hsl] at e1
    refine ⟨_, hc, t_OB.to (V := updV (vp_V (xfs K M ci a)) kf v) ⟨_, e1, q2, q3, t_set q4 hap hkn v⟩ (fun j hj => ?_)⟩
    have hj' : j < xnf ci := by rw [← g2]; exact hj
    show updV (vp_V (xfs K M ci a)) kf v j = (xfs K M' ci a).getD j .null
    rw [List.getD_eq_getElem?_getD, xfs_get K M' ci a hj', hM4 j]
    unfold updV vp_V
    rw [List.getD_eq_getElem?_getD, xfs_get K M ci a hj']
    split <;> rfl
  have hA : kA K (kB K + a) := hP.2.1 a hn
  rcases hfin with hz | ⟨hini, hcn⟩
  · unfold u_lay at hlay
    rw [if_neg (by rw [hfn, hz]; decide)] at hlay
    have h6 := u_store hfc hkC hkind hlay hi (g3 kf hkn) (by rw [hty]; exact hnr) (by rw [hty]; exact hfit)
    refine W.putK hF.1 hF.2.1 (f := f) ⟨hown, hts _ hlk, ⟨_, _, _, hi⟩, hst⟩ (by rw [q2]; exact h6) q1 q3 (by rw [hsl]; exact k2_hasslot (q4 kf hkn)) rfl rfl hd fun H' e1 e2 e3 => ?_
    exact kk H' _ (key H' e1 e2 e3) (hS.put e2 e3 hA)
  · by_cases hz : fin = true
    · unfold u_lay at hlay
      rw [if_pos (by rw [hfn, hz])] at hlay
      have hcl : r.1 = F.1.cls := by
        rw [hc] at hcn
        exact Option.some.inj hcn
      have hcf : m.cls = cf := by
        obtain ⟨_, _, c', _, _, _, -, -, hf', -, -, -, hown2, -⟩ := Cond.laysFinal_spec hlay
        have e1 : c' = cf := by have := hi.symm.trans hf'; simp at this; exact this.1.symm
        rw [hdc, hcl] at hown2
        rw [← e1]; exact Option.some.inj (hown.symm.trans hown2)
      have h6 := u_fits hfc hkC hkind (Or.inr hlay) hi (g3 kf hkn) (by rw [hty]; exact hnr) (by rw [hty]; exact hfit)
      refine W.putFinK hF.1 hF.2.1 hown (hts _ hlk) hi hst hcf (hF.2.2.2.2.2.2.2.1 hini) (by rw [q2]; exact h6) q1 q3 (by rw [hsl]; exact k2_hasslot (q4 kf hkn)) rfl rfl hd fun H' e1 e2 e3 => ?_
      exact kk H' _ (key H' e1 e2 e3) (hS.put e2 e3 hA)
    · have hz2 : fin = false := by cases fin <;> simp_all
      unfold u_lay at hlay
      rw [if_neg (by rw [hfn, hz2]; decide)] at hlay
      have h6 := u_store hfc hkC hkind hlay hi (g3 kf hkn) (by rw [hty]; exact hnr) (by rw [hty]; exact hfit)
      refine W.putK hF.1 hF.2.1 (f := f) ⟨hown, hts _ hlk, ⟨_, _, _, hi⟩, hst⟩ (by rw [q2]; exact h6) q1 q3 (by rw [hsl]; exact k2_hasslot (q4 kf hkn)) rfl rfl hd fun H' e1 e2 e3 => ?_
      exact kk H' _ (key H' e1 e2 e3) (hS.put e2 e3 hA)
end MS
