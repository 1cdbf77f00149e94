theorem y2i_1 : yX2_init.cls ≠ "java/lang/invoke/MethodHandle" := by decide +kernel
theorem y2i_2 : yX2_init.cls ≠ "java/lang/invoke/VarHandle" := by decide +kernel
theorem y2i_3 : (parseMethodDescriptor yX2_init.desc).map (fun d => d.parameters.length) = some 0 := by decide +kernel
theorem y2i_4 : yX2_init.name = "<init>" := by decide +kernel
section CW2
variable {F G : xF} {cs ss : Nat} {pc : Nat} {M : xM} {post post' : Option Value → xM → Prop} {st : List Value} {lv : List (Nat × Value)}
theorem aw_callS {i n : Nat} {stk : List Value} (As : List Value) (st : List Value) (hs : Sp G As M post') (hd : decode F.2.1 pc = .ok (.invokestatic i, 3)) (hl : xML F.1.cls i G.1 G.2.1 G.2.2.1 G.2.2.2.1 n) (hi : Cond.static G.1 ∈ gt) (hn : As.length = n) (hdp : G.2.2.2.2.2.2.1 + 1 ≤ F.2.2.2.2.2.2.1) (hal : G.2.2.2.2.2.1 = F.2.2.2.2.2.1) (hst : stk = As.reverse ++ st) (hw : (st.map fun v => v.category).sum ≤ 8) (hk1 : cs + G.2.2.2.2.2.2.2.1 ≤ F.2.2.2.2.2.2.2.1) (hk2 : ss + G.2.2.2.2.2.2.2.2 ≤ F.2.2.2.2.2.2.2.2)
    (k : ∀ r M', post' r M' → AW F (pc + 3) lv (r.toList ++ st) M' (cs + G.2.2.2.2.2.2.2.1) (ss + G.2.2.2.2.2.2.2.2) post) : AW F pc lv stk M cs ss post := by
  intro K p l e s m args below meth c H locs ls Q hF hP hS hl0 hk
  obtain ⟨l1, l2, l3, l4, l5⟩ := hl
  have hts := hF.2.2.2.2.2.1
  subst hst
  have hmap : ((As.reverse ++ st).map (cv K)) = (As.map (cv K)).reverse ++ st.map (cv K) := by rw [List.map_append, List.map_reverse]
  have hrun := va_runS (Pc := xPc K G.2.2.2.2.2.1 As M) (As := As.map (cv K)) (rest := st.map (cv K)) (g := F0 m pc ls ((As.reverse ++ st).map (cv K))) (locs := locs) (cells := cs) (slots := ss) (R := rmO F.2.2.2.2.2.2.1 F.2.2.2.2.2.2.2.1 F.2.2.2.2.2.2.2.2) (e := e) (below := below) (meth := meth) ⟨hF.1, hF.2.1, hF.2.2.2.2.2.2.1, hF.2.2.2.2.1, hts⟩ (hs K l) ⟨callB_of n hts (gt_in l3) rfl rfl rfl (hts _ l2) (hts _ l1) l4 (xroom hdp l5), hts _ hi⟩
    ⟨xPc_blind _ _ _ _, xpre hF hP hS hal⟩ rfl (by rw [List.length_map]; exact hn) hl0.1 hmap (lv_room (by rw [List.map_map]; simpa [Function.comp_def, cv_cat] using hw)) hd ⟨hk1, hk2⟩
  exact xback (st := st) hrun hS hal (fun r M' H' locs' hpost hP' hS' => k r M' hpost K p l e s m args below meth c H' locs' ls Q hF hP' hS' hl0 hk)
theorem aw_callI {b i n : Nat} {stk : List Value} (As : List Value) (st : List Value) (hs : Sp G (.ref b :: As) M post') (hd : decode F.2.1 pc = .ok (.invokespecial i, 3)) (hl : xML F.1.cls i G.1 G.2.1 G.2.2.1 none n) (hr : G.2.2.2.1 = none) (hi : Cond.instanceMethod G.1 ∈ gt ∧ G.1.name = "<init>") (hbn : b < mN M) (hn : As.length = n) (hdp : G.2.2.2.2.2.2.1 + 1 ≤ F.2.2.2.2.2.2.1) (hal : G.2.2.2.2.2.1 = F.2.2.2.2.2.1) (hst : stk = As.reverse ++ .ref b :: st) (hw : (st.map fun v => v.category).sum ≤ 8) (hk1 : cs + G.2.2.2.2.2.2.2.1 ≤ F.2.2.2.2.2.2.2.1) (hk2 : ss + G.2.2.2.2.2.2.2.2 ≤ F.2.2.2.2.2.2.2.2)
    (k : ∀ r M', post' r M' → AW F (pc + 3) lv (r.toList ++ st) M' (cs + G.2.2.2.2.2.2.2.1) (ss + G.2.2.2.2.2.2.2.2) post) : AW F pc lv stk M cs ss post := by
  intro K p l e s m args below meth c H locs ls Q hF hP hS hl0 hk
  obtain ⟨l1, l2, l3, l4, l5⟩ := hl
  have hts := hF.2.2.2.2.2.1
  subst hst
  have hmap : ((As.reverse ++ .ref b :: st).map (cv K)) = (As.map (cv K)).reverse ++ .ref (kB K + b) :: st.map (cv K) := by
    rw [List.map_append, List.map_reverse, List.map_cons, ← kad_lt hP hbn]
    rfl
  have hmp2 : (Value.ref (kB K + b) :: As.map (cv K)) = ((.ref b :: As).map (cv K)) := by
    rw [List.map_cons, ← kad_lt hP hbn]
    rfl
  have hcd : xcode G = Cond.code G.1 G.2.1 G.2.2.1 none := by unfold xcode; rw [hr]
  have hM := hs K l
  rw [hcd] at hM
  have hrun := va_runI (Pc := xPc K G.2.2.2.2.2.1 (.ref b :: As) M) (b := kB K + b) (As := As.map (cv K)) (rest := st.map (cv K)) (g := F0 m pc ls ((As.reverse ++ .ref b :: st).map (cv K))) (locs := locs) (cells := cs) (slots := ss) (R := rmO F.2.2.2.2.2.2.1 F.2.2.2.2.2.2.2.1 F.2.2.2.2.2.2.2.2) (e := e) (below := below) (meth := meth) ⟨hF.1, hF.2.1, hF.2.2.2.2.2.2.1, hF.2.2.2.2.1, hts⟩ hM ⟨callB_of n hts (gt_in l3) rfl rfl rfl (hts _ l2) (hts _ l1) l4 (xroom hdp l5), hi.2, hts _ hi.1⟩
    ⟨xPc_blind _ _ _ _, by rw [hmp2]; exact xpre hF hP hS hal⟩ rfl (by rw [List.length_map]; exact hn) hl0.1 hmap (lv_room (by rw [List.map_map]; simpa [Function.comp_def, cv_cat] using hw)) hd ⟨hk1, hk2⟩
  exact xback (st := st) (by rw [hmp2] at hrun; exact hrun) hS hal (fun r M' H' locs' hpost hP' hS' => k r M' hpost K p l e s m args below meth c H' locs' ls Q hF hP' hS' hl0 hk)
/-- the constructor of a nest mate: Row, from Reader and from TapePress -/
theorem aw_callIN {b i : Nat} (st : List Value) (hs : Sp G [.ref b] M post') (hy : G.1 = yX2_init) (hq : (F.1.cls = RX1 ∧ i = 35) ∨ (F.1.cls = RX5 ∧ i = 77)) (hd : decode F.2.1 pc = .ok (.invokespecial i, 3)) (l2 : Cond.initialized G.1.cls ∈ gt) (l3 : Cond.code G.1 G.2.1 G.2.2.1 none ∈ gt) (l5 : G.2.2.1 ≤ 45) (hr : G.2.2.2.1 = none) (hi : Cond.instanceMethod G.1 ∈ gt) (hbn : b < mN M) (hdp : G.2.2.2.2.2.2.1 + 1 ≤ F.2.2.2.2.2.2.1) (hal : G.2.2.2.2.2.1 = F.2.2.2.2.2.1) (hw : (st.map fun v => v.category).sum ≤ 8) (hk1 : cs + G.2.2.2.2.2.2.2.1 ≤ F.2.2.2.2.2.2.2.1) (hk2 : ss + G.2.2.2.2.2.2.2.2 ≤ F.2.2.2.2.2.2.2.2)
    (k : ∀ r M', post' r M' → AW F (pc + 3) lv (r.toList ++ st) M' (cs + G.2.2.2.2.2.2.2.1) (ss + G.2.2.2.2.2.2.2.2) post) : AW F pc lv (.ref b :: st) M cs ss post := by
  intro K p l e s m args below meth c H locs ls Q hF hP hS hl0 hk
  have hts := hF.2.2.2.2.2.1
  have hmap : ((.ref b :: st).map (cv K)) = (([] : List Value)).reverse ++ .ref (kB K + b) :: st.map (cv K) := by
    rw [List.map_cons, ← kad_lt hP hbn]
    rfl
  have hmp2 : [Value.ref (kB K + b)] = ([Value.ref b].map (cv K)) := by
    rw [List.map_cons, ← kad_lt hP hbn]
    rfl
  have hcd : xcode G = Cond.code G.1 G.2.1 G.2.2.1 none := by unfold xcode; rw [hr]
  have hM := hs K l
  rw [hcd] at hM
  have hnw : va_Nw (.methodLinkNest F.1.cls i G.1 "TapePress") s := by
    rcases hq with ⟨h1, h2⟩ | ⟨h1, h2⟩
    · rw [h1, h2, hy]; exact hF.2.2.2.2.2.2.2.2.1.2.2.1
    · rw [h1, h2, hy]; exact hF.2.2.2.2.2.2.2.2.1.2.2.2.1
  have hd4 : G.1.cls ≠ "java/lang/invoke/MethodHandle" ∧ G.1.cls ≠ "java/lang/invoke/VarHandle" ∧ (parseMethodDescriptor G.1.desc).map (fun d => d.parameters.length) = some 0 := by rw [hy]; exact ⟨y2i_1, y2i_2, y2i_3⟩
  have hrun := va_runIN (host := "TapePress") (Pc := xPc K G.2.2.2.2.2.1 [.ref b] M) (b := kB K + b) (As := []) (rest := st.map (cv K)) (g := F0 m pc ls ((.ref b :: st).map (cv K))) (locs := locs) (cells := cs) (slots := ss) (R := rmO F.2.2.2.2.2.2.1 F.2.2.2.2.2.2.2.1 F.2.2.2.2.2.2.2.2) (e := e) (below := below) (meth := meth) ⟨hF.1, hF.2.1, hF.2.2.2.2.2.2.1, hF.2.2.2.2.1, hts⟩ hM ⟨va_cnB 0 hts (gt_in l3) rfl rfl rfl hnw (hts _ l2) hd4 (xroom hdp l5), by rw [hy]; exact y2i_4, hts _ hi⟩
    ⟨xPc_blind _ _ _ _, by rw [hmp2]; exact xpre hF hP hS hal⟩ rfl rfl hl0.1 hmap (lv_room (by rw [List.map_map]; simpa [Function.comp_def, cv_cat] using hw)) hd ⟨hk1, hk2⟩
  exact xback (st := st) (by rw [hmp2] at hrun; exact hrun) hS hal (fun r M' H' locs' hpost hP' hS' => k r M' hpost K p l e s m args below meth c H' locs' ls Q hF hP' hS' hl0 hk)
theorem aw_objInit {b i : Nat} (hd : decode F.2.1 pc = .ok (.invokespecial i, 3)) (h1 : Cond.methodLink F.1.cls i objectInit ∈ gt) (h2 : Cond.instanceMethod objectInit ∈ gt) (h3 : Cond.code objectInit ⟨#[0xb1]⟩ 1 none ∈ gt) (hdp : 1 ≤ F.2.2.2.2.2.2.1) (hw : (st.map fun v => v.category).sum ≤ 8) (k : AW F (pc + 3) lv st M cs ss post) : AW F pc lv (.ref b :: st) M cs ss post := by
  intro K p l e s m args below meth c H locs ls Q hF hP hS hl0 hk
  have hts := hF.2.2.2.2.2.1
  refine W.objInit hF.1 hF.2.1 hF.2.2.2.2.1 (hts _ h1) (hts _ h2) (hts _ h3) rfl (by rw [hF.2.2.2.2.2.2.1]; exact hl0.1) (rest := st.map (cv K)) rfl hd hdp ?_ (k K p l e s m args below meth c H locs ls Q hF hP hS hl0 hk)
  have e1 : ((st.map (cv K)).map fun v => v.category).sum = (st.map fun v => v.category).sum := by rw [List.map_map]; simp [Function.comp_def, cv_cat]
  show 2 * 0 + ((st.map (cv K)).map fun v => v.category).sum + 12 ≤ 64 * F.2.2.2.2.2.2.1
  rw [e1]; omega
theorem aw_mmin {i : Nat} {x y : Int32} (hd : decode F.2.1 pc = .ok (.invokestatic i, 3)) (h1 : Cond.methodLink F.1.cls i Lib.Math.min.name ∈ gt) (h2 : Cond.static Lib.Math.min.name ∈ gt) (h3 : Cond.initialized "java/lang/Math" ∈ gt) (h4 : Cond.code Lib.Math.min.name Lib.Math.min.code 2 (some .int) ∈ gt) (hdp : 1 ≤ F.2.2.2.2.2.2.1) (hw : (st.map fun v => v.category).sum ≤ 8) (hk1 : cs ≤ F.2.2.2.2.2.2.2.1) (hk2 : ss ≤ F.2.2.2.2.2.2.2.2) (k : AW F (pc + 3) lv (.int (if y < x then y else x) :: st) M cs ss post) : AW F pc lv (.int y :: .int x :: st) M cs ss post := by
  intro K p l e s m args below meth c H locs ls Q hF hP hS hl0 hk
  have hts := hF.2.2.2.2.2.1
  refine va_mmin hF.1 hF.2.1 (by rw [hF.2.2.2.2.2.2.1]; exact hl0.1.symm) hF.2.2.2.2.1 (hts _ h1) (hts _ h2) (hts _ h3) (hts _ h4) hdp ?_ hk1 hk2 hd (k K p l e s m args below meth c H locs ls Q hF hP hS hl0 hk)
  have e1 : ((st.map (cv K)).map fun v => v.category).sum = (st.map fun v => v.category).sum := by rw [List.map_map]; simp [Function.comp_def, cv_cat]
  show ((st.map (cv K)).map fun v => v.category).sum + 13 ≤ 64 * F.2.2.2.2.2.2.1
  rw [e1]; omega
theorem aw_mmax {i : Nat} {x y : Int32} (hd : decode F.2.1 pc = .ok (.invokestatic i, 3)) (h1 : Cond.methodLink F.1.cls i Lib.Math.max.name ∈ gt) (h2 : Cond.static Lib.Math.max.name ∈ gt) (h3 : Cond.initialized "java/lang/Math" ∈ gt) (h4 : Cond.code Lib.Math.max.name Lib.Math.max.code 2 (some .int) ∈ gt) (hdp : 1 ≤ F.2.2.2.2.2.2.1) (hw : (st.map fun v => v.category).sum ≤ 8) (hk1 : cs ≤ F.2.2.2.2.2.2.2.1) (hk2 : ss ≤ F.2.2.2.2.2.2.2.2) (k : AW F (pc + 3) lv (.int (if x < y then y else x) :: st) M cs ss post) : AW F pc lv (.int y :: .int x :: st) M cs ss post := by
  intro K p l e s m args below meth c H locs ls Q hF hP hS hl0 hk
  have hts := hF.2.2.2.2.2.1
  refine va_mmax hF.1 hF.2.1 (by rw [hF.2.2.2.2.2.2.1]; exact hl0.1.symm) hF.2.2.2.2.1 (hts _ h1) (hts _ h2) (hts _ h3) (hts _ h4) hdp ?_ hk1 hk2 hd (k K p l e s m args below meth c H locs ls Q hF hP hS hl0 hk)
  have e1 : ((st.map (cv K)).map fun v => v.category).sum = (st.map fun v => v.category).sum := by rw [List.map_map]; simp [Function.comp_def, cv_cat]
  show ((st.map (cv K)).map fun v => v.category).sum + 13 ≤ 64 * F.2.2.2.2.2.2.1
  rw [e1]; omega
-- copies of arrays
theorem xP_ws {K : xK} {M' : xM} {H1 : Heap} (hP : va_P (kD K) vwCl (xws K M') H1) (h2 : ∀ i, i < mN M' → kA K (kB K + i)) (h4 : mN M' ≤ 1000000) : xP K false M' H1 := ⟨fun i hi => hP i _ (xws_get hi), h2, fun h => Bool.noConfusion h, h4⟩
theorem xws_set {K : xK} {M M' : xM} {b : Nat} {ev : va_E} (hn : mN M' = mN M) (ho : ∀ j, j ≠ b → xcell K M' j = xcell K M j) (he : xcell K M' b = ev) : (xws K M).set b (kB K + b, ev) = xws K M' := by
  apply List.ext_getElem?
  intro j
  by_cases hj : j < mN M
  · rw [xws_get (M := M') (by rw [hn]; exact hj)]
    by_cases hb : j = b
    · subst hb
      rw [List.getElem?_set_self (by simpa [xws] using hj), he]
    · rw [List.getElem?_set_ne (Ne.symm hb), xws_get hj, ho j hb]
  · rw [List.getElem?_eq_none (by simp [xws]; omega), List.getElem?_eq_none (by simp [xws]; omega)]
theorem aw_copyI {i a b n0 n1 : Nat} {sp dp n : Int32} (hal : F.2.2.2.2.2.1 = false) (hd : decode F.2.1 pc = .ok (.invokestatic i, 3)) (w1 : Cond.methodLink F.1.cls i arraycopyName ∈ gt) (w2 : Cond.native arraycopyName ∈ gt) (w3 : Cond.static arraycopyName ∈ gt) (w4 : Cond.initialized "java/lang/System" ∈ gt) (ha : mS M a = (1, n0)) (han : a < mN M) (hb : mS M b = (1, n1)) (hbn : b < mN M) (h1 : ¬ sp < 0) (h2 : ¬ dp < 0) (h3 : ¬ n < 0) (h4 : sp.toNatClampNeg + n.toNatClampNeg ≤ n0) (h5 : dp.toNatClampNeg + n.toNatClampNeg ≤ n1) (hdp : 1 ≤ F.2.2.2.2.2.2.1) (hw : (st.map fun v => v.category).sum ≤ 8)
    (k : AW F (pc + 3) lv st (cpI M a b sp.toNatClampNeg dp.toNatClampNeg n.toNatClampNeg) cs ss post) : AW F pc lv (.int n :: .int dp :: .ref b :: .int sp :: .ref a :: st) M cs ss post := by
  intro K p l e s m args below meth c H locs ls Q hF hP hS hl0 hk
  have hts := hF.2.2.2.2.2.1
  show W p l e _ s m args below meth c H locs cs ss Q (F0 m pc ls (.int n :: .int dp :: .ref (kad K b) :: .int sp :: .ref (kad K a) :: st.map (cv K)))
  rw [kad_lt hP han, kad_lt hP hbn]
  have e1 : ((st.map (cv K)).map fun v => v.category).sum = (st.map fun v => v.category).sum := by rw [List.map_map]; simp [Function.comp_def, cv_cat]
  have hset : (xws K M).set b (kB K + b, .inl (kI K, n1, .inl (va_cpy (mI M a) (mI M b) sp.toNatClampNeg dp.toNatClampNeg n.toNatClampNeg))) = xws K (cpI M a b sp.toNatClampNeg dp.toNatClampNeg n.toNatClampNeg) := by
    refine xws_set rfl (fun j hj => ?_) ?_
    · have e : mI (cpI M a b sp.toNatClampNeg dp.toNatClampNeg n.toNatClampNeg) j = mI M j := if_neg hj
      unfold xcell xfs xfv
      rw [e]
      rfl
    · rw [xcell1 (show mS (cpI M a b sp.toNatClampNeg dp.toNatClampNeg n.toNatClampNeg) b = (1, n1) from hb)]
      congr 4
      exact if_pos rfl
  refine va_copyi hF.1 hF.2.1 (by rw [hF.2.2.2.2.2.2.1]; exact hl0.1.symm) hF.2.2.2.2.1 (hts _ w1) (hts _ w2) (hts _ w3) (hts _ w4) hF.2.2.2.2.2.2.2.2.1.1 hP.ws (xws_D hP.2.1) hS a b 0 0 (by rw [xws_get han, xcell1 ha]) (by rw [xws_get hbn, xcell1 hb]) rfl rfl rfl h1 h2 h3 h4 h5 (fun _ _ => rfl) hdp ?_ hd (fun H1 locs1 hP1 hD1 hS1 => ?_)
  · rw [e1]
    show (st.map fun v => v.category).sum + (7 + 11) ≤ 64 * F.2.2.2.2.2.2.1
    omega
  · rw [hset] at hP1
    refine k K p l e s m args below meth c H1 locs1 ls Q hF ?_ hS1 hl0 hk
    rw [hal]
    exact xP_ws hP1 hP.2.1 hP.2.2.2
theorem aw_copyL {i a b n0 n1 : Nat} {sp dp n : Int32} (hal : F.2.2.2.2.2.1 = false) (hd : decode F.2.1 pc = .ok (.invokestatic i, 3)) (w1 : Cond.methodLink F.1.cls i arraycopyName ∈ gt) (w2 : Cond.native arraycopyName ∈ gt) (w3 : Cond.static arraycopyName ∈ gt) (w4 : Cond.initialized "java/lang/System" ∈ gt) (ha : mS M a = (2, n0)) (han : a < mN M) (hb : mS M b = (2, n1)) (hbn : b < mN M) (h1 : ¬ sp < 0) (h2 : ¬ dp < 0) (h3 : ¬ n < 0) (h4 : sp.toNatClampNeg + n.toNatClampNeg ≤ n0) (h5 : dp.toNatClampNeg + n.toNatClampNeg ≤ n1) (hdp : 1 ≤ F.2.2.2.2.2.2.1) (hw : (st.map fun v => v.category).sum ≤ 8)
    (k : AW F (pc + 3) lv st (cpL M a b sp.toNatClampNeg dp.toNatClampNeg n.toNatClampNeg) cs ss post) : AW F pc lv (.int n :: .int dp :: .ref b :: .int sp :: .ref a :: st) M cs ss post := by
  intro K p l e s m args below meth c H locs ls Q hF hP hS hl0 hk
  have hts := hF.2.2.2.2.2.1
  show W p l e _ s m args below meth c H locs cs ss Q (F0 m pc ls (.int n :: .int dp :: .ref (kad K b) :: .int sp :: .ref (kad K a) :: st.map (cv K)))
  rw [kad_lt hP han, kad_lt hP hbn]
  have e1 : ((st.map (cv K)).map fun v => v.category).sum = (st.map fun v => v.category).sum := by rw [List.map_map]; simp [Function.comp_def, cv_cat]
  have hset : (xws K M).set b (kB K + b, .inl (kJ K, n1, .inr (.inl (va_cpy (mL M a) (mL M b) sp.toNatClampNeg dp.toNatClampNeg n.toNatClampNeg)))) = xws K (cpL M a b sp.toNatClampNeg dp.toNatClampNeg n.toNatClampNeg) := by
    refine xws_set rfl (fun j hj => ?_) ?_
    · have e : mL (cpL M a b sp.toNatClampNeg dp.toNatClampNeg n.toNatClampNeg) j = mL M j := if_neg hj
      unfold xcell xfs xfv
      rw [e]
      rfl
    · rw [xcell2 (show mS (cpL M a b sp.toNatClampNeg dp.toNatClampNeg n.toNatClampNeg) b = (2, n1) from hb)]
      congr 5
      exact if_pos rfl
  refine va_copyl hF.1 hF.2.1 (by rw [hF.2.2.2.2.2.2.1]; exact hl0.1.symm) hF.2.2.2.2.1 (hts _ w1) (hts _ w2) (hts _ w3) (hts _ w4) hF.2.2.2.2.2.2.2.2.1.1 hP.ws (xws_D hP.2.1) hS a b 1 1 (by rw [xws_get han, xcell2 ha]) (by rw [xws_get hbn, xcell2 hb]) rfl rfl rfl h1 h2 h3 h4 h5 (fun _ _ => rfl) hdp ?_ hd (fun H1 locs1 hP1 hD1 hS1 => ?_)
  · rw [e1]
    show (st.map fun v => v.category).sum + (7 + 11) ≤ 64 * F.2.2.2.2.2.2.1
    omega
  · rw [hset] at hP1
    refine k K p l e s m args below meth c H1 locs1 ls Q hF ?_ hS1 hl0 hk
    rw [hal]
    exact xP_ws hP1 hP.2.1 hP.2.2.2
end CW2
