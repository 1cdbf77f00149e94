theorem kad_s (K : xK) (j : Nat) : kad K (1000000 + j) = kS K j := by
  unfold kad
  rw [if_neg (Nat.not_lt.mpr (Nat.le_add_right _ _)), Nat.add_sub_cancel_left]
section MW
variable {F : xF} {pc : Nat} {lv : List (Nat × Value)} {st : List Value} {M : xM} {cs ss : Nat} {post : Option Value → xM → Prop}
theorem xfv_I {K : xK} {M : xM} {ci a kf : Nat} {x : Int32} (hty : xty ci kf = .int) (j : Nat) : xfv K (stI M a kf x) (xty ci j) a j = if j = kf then .int x else xfv K M (xty ci j) a j := by
  by_cases h : j = kf
  · subst h
    rw [hty, if_pos rfl]
    show Value.int (xup M.1 a j x a j) = _
    rw [xup_s]
  · rw [if_neg h]
    have e : mI (stI M a kf x) a j = mI M a j := xup_k _ a x h a
    unfold xfv
    rw [e]
    rfl
theorem xfv_L {K : xK} {M : xM} {ci a kf : Nat} {x : Int64} (hty : xty ci kf = .long) (j : Nat) : xfv K (stL M a kf x) (xty ci j) a j = if j = kf then .long x else xfv K M (xty ci j) a j := by
  by_cases h : j = kf
  · subst h
    rw [hty, if_pos rfl]
    show Value.long (xup M.2.1 a j x a j) = _
    rw [xup_s]
  · rw [if_neg h]
    have e : mL (stL M a kf x) a j = mL M a j := xup_k _ a x h a
    unfold xfv
    rw [e]
    rfl
theorem xfv_R {K : xK} {M : xM} {ci a kf b : Nat} {ty : FieldType} (hty : xty ci kf = ty) (hr : ty.isReference = true) (j : Nat) : xfv K (stR M a kf (some b)) (xty ci j) a j = if j = kf then .ref (kad K b) else xfv K M (xty ci j) a j := by
  by_cases h : j = kf
  · subst h
    rw [hty, if_pos rfl]
    have e : mR (stR M a j (some b)) a j = some b := xup_s _ _ _ _
    unfold xfv
    rw [e]
    cases ty <;> first | rfl | cases hr
  · rw [if_neg h]
    have e : mR (stR M a kf (some b)) a j = mR M a j := xup_k _ a _ h a
    unfold xfv
    rw [e]
    rfl
theorem aw_putI {i ci a kf : Nat} {x : Int32} {fin : Bool} (hd : decode F.2.1 pc = .ok (.putfield i, 3)) (hf : xFL F.1.cls i ci kf .int fin) (hfin : fin = false ∨ (F.2.2.2.2.1 = true ∧ vwCl[ci]?.map (fun q => q.1) = some F.1.cls)) (ha : mS M a = (0, ci)) (hn : a < mN M) (k : AW F (pc + 3) lv st (stI M a kf x) cs ss post) : AW F pc lv (.int x :: .ref a :: st) M cs ss post := by
  intro K p l e s m args below meth c H locs ls Q hF hP hS hl hk
  exact xput (M' := stI M a kf x) hF hP hS hf hfin ha hn rfl rfl rfl rfl (fun j h => xcell_I h) (fun j => xfv_I (by obtain ⟨q, -, -, -, h, -⟩ := hf; exact h) j) hd (fun H' locs' hP' hS' => k K p l e s m args below meth c H' locs' ls Q hF hP' hS' hl hk)
theorem aw_putL {i ci a kf : Nat} {x : Int64} {fin : Bool} (hd : decode F.2.1 pc = .ok (.putfield i, 3)) (hf : xFL F.1.cls i ci kf .long fin) (hfin : fin = false ∨ (F.2.2.2.2.1 = true ∧ vwCl[ci]?.map (fun q => q.1) = some F.1.cls)) (ha : mS M a = (0, ci)) (hn : a < mN M) (k : AW F (pc + 3) lv st (stL M a kf x) cs ss post) : AW F pc lv (.long x :: .ref a :: st) M cs ss post := by
  intro K p l e s m args below meth c H locs ls Q hF hP hS hl hk
  exact xput (M' := stL M a kf x) hF hP hS hf hfin ha hn rfl rfl rfl rfl (fun j h => xcell_L h) (fun j => xfv_L (by obtain ⟨q, -, -, -, h, -⟩ := hf; exact h) j) hd (fun H' locs' hP' hS' => k K p l e s m args below meth c H' locs' ls Q hF hP' hS' hl hk)
theorem aw_putR {i ci a kf b : Nat} {ty : FieldType} {fin : Bool} (hd : decode F.2.1 pc = .ok (.putfield i, 3)) (hf : xFL F.1.cls i ci kf ty fin) (hr : ty.isReference = true) (hfin : fin = false ∨ (F.2.2.2.2.1 = true ∧ vwCl[ci]?.map (fun q => q.1) = some F.1.cls)) (ha : mS M a = (0, ci)) (hn : a < mN M) (k : AW F (pc + 3) lv st (stR M a kf (some b)) cs ss post) : AW F pc lv (.ref b :: .ref a :: st) M cs ss post := by
  intro K p l e s m args below meth c H locs ls Q hF hP hS hl hk
  exact xput (M' := stR M a kf (some b)) hF hP hS hf hfin ha hn (by cases ty <;> first | rfl | cases hr) (by cases ty <;> first | rfl | cases hr) rfl rfl (fun j h => xcell_R h) (fun j => xfv_R (by obtain ⟨q, -, -, -, h, -⟩ := hf; exact h) hr j) hd (fun H' locs' hP' hS' => k K p l e s m args below meth c H' locs' ls Q hF hP' hS' hl hk)
-- arrays
theorem aw_iald {a n : Nat} {i : Int32} (hd : decode F.2.1 pc = .ok (.iaload, 1)) (ha : mS M a = (1, n)) (hn : a < mN M) (hin : vp_in i n) (k : AW F (pc + 1) lv (.int (mI M a i.toNatClampNeg) :: st) M cs ss post) : AW F pc lv (.int i :: .ref a :: st) M cs ss post := by
  intro K p l e s m args below meth c H locs ls Q hF hP hS hl hk
  show W p l e _ s m args below meth c H locs cs ss Q (F0 m pc ls (.int i :: .ref (kad K a) :: st.map (cv K)))
  rw [kad_lt hP hn]
  exact va_iald hF.1 hF.2.1 hF.2.2.2.2.2.2.2.2.1.1 (hP.one hn (xcell1 ha)) 0 0 rfl rfl hin hd (k K p l e s m args below meth c H locs ls Q hF hP hS hl hk)
theorem aw_lald {a n : Nat} {i : Int32} (hd : decode F.2.1 pc = .ok (.laload, 1)) (ha : mS M a = (2, n)) (hn : a < mN M) (hin : vp_in i n) (k : AW F (pc + 1) lv (.long (mL M a i.toNatClampNeg) :: st) M cs ss post) : AW F pc lv (.int i :: .ref a :: st) M cs ss post := by
  intro K p l e s m args below meth c H locs ls Q hF hP hS hl hk
  show W p l e _ s m args below meth c H locs cs ss Q (F0 m pc ls (.int i :: .ref (kad K a) :: st.map (cv K)))
  rw [kad_lt hP hn]
  exact va_lald hF.1 hF.2.1 hF.2.2.2.2.2.2.2.2.1.1 (hP.one hn (xcell2 ha)) 0 1 rfl rfl hin hd (k K p l e s m args below meth c H locs ls Q hF hP hS hl hk)
theorem aw_aald {a n b : Nat} {i : Int32} (hd : decode F.2.1 pc = .ok (.aaload, 1)) (ha : mS M a = (3, n)) (hn : a < mN M) (hin : vp_in i n) (hb : mR M a i.toNatClampNeg = some b) (k : AW F (pc + 1) lv (.ref b :: st) M cs ss post) : AW F pc lv (.int i :: .ref a :: st) M cs ss post := by
  intro K p l e s m args below meth c H locs ls Q hF hP hS hl hk
  show W p l e _ s m args below meth c H locs cs ss Q (F0 m pc ls (.int i :: .ref (kad K a) :: st.map (cv K)))
  rw [kad_lt hP hn]
  refine va_aldq hF.1 hF.2.1 hF.2.2.2.2.2.2.2.2.1.1 (hP.one hn (xcell3 ha)) 0 2 rfl rfl hin hd ?_
  simp only [hb]
  exact k K p l e s m args below meth c H locs ls Q hF hP hS hl hk
theorem aw_alen {a t n : Nat} (hd : decode F.2.1 pc = .ok (.arraylength, 1)) (ha : mS M a = (t + 1, n)) (hn : a < mN M) (k : AW F (pc + 1) lv (.int (Int32.ofNat n) :: st) M cs ss post) : AW F pc lv (.ref a :: st) M cs ss post := by
  intro K p l e s m args below meth c H locs ls Q hF hP hS hl hk
  show W p l e _ s m args below meth c H locs cs ss Q (F0 m pc ls (.ref (kad K a) :: st.map (cv K)))
  rw [kad_lt hP hn]
  have kk := k K p l e s m args below meth c H locs ls Q hF hP hS hl hk
  match t, ha with
  | 0, ha => exact va_alen hF.1 hF.2.1 hF.2.2.2.2.2.2.2.2.1.1 (hP.one hn (xcell1 ha)) 0 0 rfl rfl rfl hd kk
  | 1, ha => exact va_alen hF.1 hF.2.1 hF.2.2.2.2.2.2.2.2.1.1 (hP.one hn (xcell2 ha)) 0 1 rfl rfl rfl hd kk
  | t + 2, ha =>
    have hx : xcell K M a = .inl (kR K, n, .inr (.inr (.inr (.inr (fun k => (mR M a k).map (kad K)))))) := by unfold xcell; rw [ha]; rfl
    exact va_alen hF.1 hF.2.1 hF.2.2.2.2.2.2.2.2.1.1 (hP.one hn hx) 0 2 rfl rfl rfl hd kk
theorem aw_iast {a n : Nat} {i x : Int32} (hd : decode F.2.1 pc = .ok (.iastore, 1)) (ha : mS M a = (1, n)) (hn : a < mN M) (hin : vp_in i n) (k : AW F (pc + 1) lv st (stI M a i.toNatClampNeg x) cs ss post) : AW F pc lv (.int x :: .int i :: .ref a :: st) M cs ss post := by
  intro K p l e s m args below meth c H locs ls Q hF hP hS hl hk
  show W p l e _ s m args below meth c H locs cs ss Q (F0 m pc ls (.int x :: .int i :: .ref (kad K a) :: st.map (cv K)))
  rw [kad_lt hP hn]
  have hat := hP.1 a hn
  rw [xcell1 ha] at hat
  refine W.iast hF.1 hF.2.1 hat ((hF.2.2.2.2.2.2.2.2.1.1.2 0 _ rfl).1 n (fun j => .int (mI M a j))) (fun q => by cases q) (by show ¬ (i < 0 ∨ (arrV _ _ _).slots.size ≤ _); rw [arrV_size]; exact hin) rfl rfl hd fun H1 e1 z oq => ?_
  refine k K p l e s m args below meth c H1 _ ls Q hF (hP.set (i := a) rfl (fun j h => xcell_I h) ?_ oq (fun _ => z)) (hS.put z oq (hP.2.1 a hn)) hl hk
  rw [xcell1 (show mS (stI M a i.toNatClampNeg x) a = (1, n) from ha)]
  show H1[kB K + a]? = some (vp_cell _ _)
  rw [e1, vp_cell_i, vp_cell_i, arrV_store]
  congr 2
  funext q
  by_cases hq : q = i.toNatClampNeg
  · subst hq
    simp [updV, mI, stI, xup]
  · simp [updV, mI, stI, xup, hq]
theorem aw_last {a n : Nat} {i : Int32} {x : Int64} (hd : decode F.2.1 pc = .ok (.lastore, 1)) (ha : mS M a = (2, n)) (hn : a < mN M) (hin : vp_in i n) (k : AW F (pc + 1) lv st (stL M a i.toNatClampNeg x) cs ss post) : AW F pc lv (.long x :: .int i :: .ref a :: st) M cs ss post := by
  intro K p l e s m args below meth c H locs ls Q hF hP hS hl hk
  show W p l e _ s m args below meth c H locs cs ss Q (F0 m pc ls (.long x :: .int i :: .ref (kad K a) :: st.map (cv K)))
  rw [kad_lt hP hn]
  have hat := hP.1 a hn
  rw [xcell2 ha] at hat
  refine W.last hF.1 hF.2.1 hat ((hF.2.2.2.2.2.2.2.2.1.1.2 1 _ rfl).1 n (fun j => .long (mL M a j))) (fun q => by cases q) (by show ¬ (i < 0 ∨ (arrV _ _ _).slots.size ≤ _); rw [arrV_size]; exact hin) rfl rfl hd fun H1 e1 z oq => ?_
  refine k K p l e s m args below meth c H1 _ ls Q hF (hP.set (i := a) rfl (fun j h => xcell_L h) ?_ oq (fun _ => z)) (hS.put z oq (hP.2.1 a hn)) hl hk
  rw [xcell2 (show mS (stL M a i.toNatClampNeg x) a = (2, n) from ha)]
  show H1[kB K + a]? = some (vp_cell _ _)
  rw [e1, vp_cell_l, vp_cell_l, arrV_store]
  congr 2
  funext q
  by_cases hq : q = i.toNatClampNeg
  · subst hq
    simp [updV, mL, stL, xup]
  · simp [updV, mL, stL, xup, hq]
/-- a row (class 1) is laid into an array of rows -/
theorem aw_aast {a n b : Nat} {i : Int32} (hd : decode F.2.1 pc = .ok (.aastore, 1)) (ha : mS M a = (3, n)) (hn : a < mN M) (hin : vp_in i n) (hb : mS M b = (0, 1)) (hbn : b < mN M) (k : AW F (pc + 1) lv st (stR M a i.toNatClampNeg (some b)) cs ss post) : AW F pc lv (.ref b :: .int i :: .ref a :: st) M cs ss post := by
  intro K p l e s m args below meth c H locs ls Q hF hP hS hl hk
  show W p l e _ s m args below meth c H locs cs ss Q (F0 m pc ls (.ref (kad K b) :: .int i :: .ref (kad K a) :: st.map (cv K)))
  rw [kad_lt hP hn, kad_lt hP hbn]
  have hat := hP.1 a hn
  rw [xcell3 ha] at hat
  have hbt := hP.1 b hbn
  rw [xcell0 hb] at hbt
  have hK := hF.2.2.2.2.2.2.2.2.1.1
  have hlt : i.toNatClampNeg < n := Nat.not_le.mp fun q => hin (Or.inr q)
  have h0 : ¬ i < 0 := fun q => hin (Or.inl q)
  obtain ⟨r', hr', cellV, g1, g2, g3, -⟩ := hbt
  have hcls := (hK.1 1 (RX2, TX2, 4) rfl).2
  obtain ⟨kA', comp, k1, k2, k3, -⟩ := (hK.2 2 _ rfl).2
  have hcomp : comp = (kD K).1 1 := Option.some.inj (k3.symm.trans hcls.1)
  subst hcomp
  obtain ⟨kC, hkC, -⟩ := hcls.2
  refine W.aast hF.1 hF.2.1 hat (fun q h => by cases h) (fun h => by cases h) k1 k2 rfl hkC ⟨h0, by show _ < (arrV _ _ _).slots.size; rw [arrV_size]; exact hlt⟩ g1 (fun q h => by rw [g3] at h; cases h) (by rw [g2]; exact hkC) (by rw [g2]; exact va_assign hcls) rfl rfl hd fun H1 e1 z oq => ?_
  refine k K p l e s m args below meth c H1 _ ls Q hF (hP.set (i := a) rfl (fun j h => xcell_R h) ?_ oq (fun _ => z)) (hS.put z oq (hP.2.1 a hn)) hl hk
  rw [xcell3 (show mS (stR M a i.toNatClampNeg (some b)) a = (3, n) from ha)]
  show H1[kB K + a]? = some (vp_cell _ _)
  rw [e1, vp_cell_q, vp_cell_q, arrV_store]
  congr 2
  funext q
  by_cases hq : q = i.toNatClampNeg
  · subst hq
    simp [updV, mR, stR, xup, va_rf, kad_lt hP hbn]
  · simp [updV, mR, stR, xup, hq]
-- statics
theorem aw_gets {i j : Nat} (hd : decode F.2.1 pc = .ok (.getstatic i, 3)) (hj : j < 5) (hw : Cond.fieldLink F.1.cls i (xsC j).1 (xsC j).2.1 (xsC j).2.2 ∈ gt) (k : AW F (pc + 3) lv (.ref (1000000 + j) :: st) M cs ss post) : AW F pc lv st M cs ss post := by
  intro K p l e s m args below meth c H locs ls Q hF hP hS hl hk
  have e1 := kad_s K j
  have kk := k K p l e s m args below meth c H locs ls Q hF hP hS hl hk
  have kk2 : W p l e (rmO F.2.2.2.2.2.2.1 F.2.2.2.2.2.2.2.1 F.2.2.2.2.2.2.2.2) s m args below meth c H locs cs ss Q (F0 m (pc + 3) ls (.ref (kad K (1000000 + j)) :: st.map (cv K))) := kk
  rw [e1] at kk2
  exact va_gets hF.1 hF.2.1 (hF.2.2.2.2.2.2.2.2.1.2.1 j hj).1 hS hF.2.2.2.2.1 (hF.2.2.2.2.2.1 _ hw) (fun _ h9 => h9) hd kk2
theorem aw_siald {j : Nat} {i v : Int32} (hd : decode F.2.1 pc = .ok (.iaload, 1)) (hj : j < 5) (ht : xsT j = .int) (hin : vp_in i (xsN j)) (hv : xsF j i.toNatClampNeg = .int v) (k : AW F (pc + 1) lv (.int v :: st) M cs ss post) : AW F pc lv (.int i :: .ref (1000000 + j) :: st) M cs ss post := by
  intro K p l e s m args below meth c H locs ls Q hF hP hS hl hk
  have e1 := kad_s K j
  show W p l e _ s m args below meth c H locs cs ss Q (F0 m pc ls (.int i :: .ref (kad K (1000000 + j)) :: st.map (cv K)))
  rw [e1]
  have hT := (hF.2.2.2.2.2.2.2.2.1.2.1 j hj).2
  rw [ht] at hT
  exact va_ti hF.1 hF.2.1 hT hS hin hv hd (k K p l e s m args below meth c H locs ls Q hF hP hS hl hk)
theorem aw_slald {j : Nat} {i : Int32} {v : Int64} (hd : decode F.2.1 pc = .ok (.laload, 1)) (hj : j < 5) (ht : xsT j = .long) (hin : vp_in i (xsN j)) (hv : xsF j i.toNatClampNeg = .long v) (k : AW F (pc + 1) lv (.long v :: st) M cs ss post) : AW F pc lv (.int i :: .ref (1000000 + j) :: st) M cs ss post := by
  intro K p l e s m args below meth c H locs ls Q hF hP hS hl hk
  have e1 := kad_s K j
  show W p l e _ s m args below meth c H locs cs ss Q (F0 m pc ls (.int i :: .ref (kad K (1000000 + j)) :: st.map (cv K)))
  rw [e1]
  have hT := (hF.2.2.2.2.2.2.2.2.1.2.1 j hj).2
  rw [ht] at hT
  exact va_tl hF.1 hF.2.1 hT hS hin hv hd (k K p l e s m args below meth c H locs ls Q hF hP hS hl hk)
theorem aw_salen {j : Nat} {v : Int32} (hd : decode F.2.1 pc = .ok (.arraylength, 1)) (hj : j < 5) (hv : Int32.ofNat (xsN j) = v) (k : AW F (pc + 1) lv (.int v :: st) M cs ss post) : AW F pc lv (.ref (1000000 + j) :: st) M cs ss post := by
  intro K p l e s m args below meth c H locs ls Q hF hP hS hl hk
  have e1 := kad_s K j
  show W p l e _ s m args below meth c H locs cs ss Q (F0 m pc ls (.ref (kad K (1000000 + j)) :: st.map (cv K)))
  rw [e1]
  exact va_tlen hF.1 hF.2.1 (hF.2.2.2.2.2.2.2.2.1.2.1 j hj).2 hS hv hd (k K p l e s m args below meth c H locs ls Q hF hP hS hl hk)
end MW
