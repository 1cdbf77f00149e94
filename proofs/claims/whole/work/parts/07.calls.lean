-- CALLS, NEW CELLS, COPIES
def xML (own : String) (i : Nat) (y : MethodName) (cc : ByteArray) (nl : Nat) (ret : Option FieldType) (n : Nat) : Prop :=
  Cond.methodLink own i y ∈ gt ∧ Cond.initialized y.cls ∈ gt ∧ Cond.code y cc nl ret ∈ gt ∧ (y.cls ≠ "java/lang/invoke/MethodHandle" ∧ y.cls ≠ "java/lang/invoke/VarHandle" ∧ (parseMethodDescriptor y.desc).map (fun d => d.parameters.length) = some n) ∧ nl ≤ 45
theorem gt_in {w : Cond} (h : w ∈ gt) : GoodIn gt (w :: gt) := by
  intro v hv
  have hv' : v ∈ gt := by
    rcases List.mem_cons.mp hv with rfl | q
    · exact h
    · exact q
  exact ⟨hv', gt_good v hv'⟩
theorem xPc_blind (K : xK) (al : Bool) (args : List Value) (M : xM) : FrameBlind (xPc K al args M) := by
  intro a U g mk q
  obtain ⟨q0, qU, qA, qP⟩ := q
  exact ⟨q0, ⟨va_K.moved (u := U) (U := U.calling g mk a) (Vm.Alike.refl U.vm) qU.1, fun j hj => ⟨va_Z.moved (u := U) (U := U.calling g mk a) (Vm.Alike.refl U.vm) (qU.2.1 j hj).1, va_T.moved (u := U) (U := U.calling g mk a) (Vm.Alike.refl U.vm) (qU.2.1 j hj).2⟩, va_Nw.same rfl (u := U) (U := U.calling g mk a) rfl qU.2.2.1, va_Nw.same rfl (u := U) (U := U.calling g mk a) rfl qU.2.2.2.1, va_AO.moved (u := U) (U := U.calling g mk a) (Vm.Alike.refl U.vm) qU.2.2.2.2⟩, qA, qP⟩
section CW
variable {F G : xF} {K : xK} {p : Program} {l : Launch} {e : Env} {s : State} {m : MethodId} {args : Array Value} {below : List Frame} {meth : Method} {c : Code} {H : Heap} {locs : List Loc} {cs ss : Nat} {Q : State → Prop} {pc : Nat} {ls : Array Slot} {M : xM} {post post' : Option Value → xM → Prop} {st : List Value} {lv : List (Nat × Value)}
/-- what a caller hands to its callee -/
theorem xpre {as : List Value} (hF : xFix F K p s m args meth c) (hP : xP K F.2.2.2.2.2.1 M H) (hS : va_S (kA K) s.heap H locs) (hal : G.2.2.2.2.2.1 = F.2.2.2.2.2.1) : ∀ U : State, U.heap = H → s.WarmedH U.vm → xPc K G.2.2.2.2.2.1 as M (as.map (cv K)).toArray U := by
  intro U hU hW
  refine ⟨rfl, xU.moved hW (fun a h1 h2 => by rw [hU]; exact hS.2.1 a h1 h2) hF.2.2.2.2.2.2.2.2.1, ?_, ?_⟩
  · rw [hal]; exact hF.2.2.2.2.2.2.2.2.2
  · rw [hal, hU]; exact hP
/-- behind a call -/
theorem xback {stk : List Value} {av : Array Value} (hrun : va_Run p l e (rmO F.2.2.2.2.2.2.1 F.2.2.2.2.2.2.2.1 F.2.2.2.2.2.2.2.2) s m args below meth c H locs cs ss G.2.2.2.2.2.2.2.1 G.2.2.2.2.2.2.2.2 (F0 m pc ls stk) (st.map (cv K)) (xQc K G.2.2.2.2.2.1 post' av) (kA K)) (hS : va_S (kA K) s.heap H locs) (hal : G.2.2.2.2.2.1 = F.2.2.2.2.2.1)
    (kk : ∀ (r : Option Value) (M' : xM) (H' : Heap) (locs' : List Loc), post' r M' → xP K F.2.2.2.2.2.1 M' H' → va_S (kA K) s.heap H' locs' → W p l e (rmO F.2.2.2.2.2.2.1 F.2.2.2.2.2.2.2.1 F.2.2.2.2.2.2.2.2) s m args below meth c H' locs' (cs + G.2.2.2.2.2.2.2.1) (ss + G.2.2.2.2.2.2.2.2) Q (F0 m (pc + 3) ls ((r.toList ++ st).map (cv K)))) :
    W p l e (rmO F.2.2.2.2.2.2.1 F.2.2.2.2.2.2.2.1 F.2.2.2.2.2.2.2.2) s m args below meth c H locs cs ss Q (F0 m pc ls stk) := by
  intro T hT X
  obtain ⟨v, st₀, t, T', L, h0, X', hL, e1, e2, ⟨⟨r, M', hr, hpost, hP'⟩, hz, hkeep⟩, go⟩ := hrun T hT X
  have hv : v = r.map (cv K) := by cases hr; rfl
  subst hv
  rw [h0] at hz hkeep
  rw [hal] at hP'
  obtain ⟨t2, a1, b1⟩ := kk r M' T'.heap (locs ++ L) hpost (by rw [e1]; exact hP')
    ⟨Nat.le_trans hS.1 (by rw [e1]; exact hz), fun q h1 h2 => by rw [e1, hkeep q (Nat.lt_of_lt_of_le h1 hS.1) h2]; exact hS.2.1 q h1 h2, fun q hq => by
      rcases List.mem_append.mp hq with h | h
      · exact hS.2.2 q h
      · exact hL q h⟩ T' rfl X'
  refine ⟨t2, go t2 ?_, b1⟩
  cases r with
  | none => exact a1
  | some w => exact a1
theorem xroom {d d' nl : Nat} (hd : d' + 1 ≤ d) (hn : nl ≤ 45) : d' + 1 ≤ d ∧ 8 + (nl + 11) + 64 * d' ≤ 64 * d := ⟨hd, by omega⟩
theorem aw_callV {b ci i n : Nat} {stk : List Value} (As : List Value) (st : List Value) (hs : Sp G (.ref b :: As) M post') (hd : decode F.2.1 pc = .ok (.invokevirtual i, 3)) (hl : xML F.1.cls i G.1 G.2.1 G.2.2.1 G.2.2.2.1 n) (hi : Cond.instanceMethod G.1 ∈ gt ∧ Cond.selects G.1.cls G.1 G.1 ∈ gt) (hb : mS M b = (0, ci)) (hbn : b < mN M) (hc : vwCl[ci]?.map (fun q => q.1) = some G.1.cls) (hn : As.length = n) (hdp : G.2.2.2.2.2.2.1 + 1 ≤ F.2.2.2.2.2.2.1) (hal : G.2.2.2.2.2.1 = F.2.2.2.2.2.1) (hst : stk = As.reverse ++ .ref b :: st) (hw : (st.map fun v => v.category).sum ≤ 8) (hk1 : cs + G.2.2.2.2.2.2.2.1 ≤ F.2.2.2.2.2.2.2.1) (hk2 : ss + G.2.2.2.2.2.2.2.2 ≤ F.2.2.2.2.2.2.2.2)
    (k : ∀ r M', post' r M' → AW F (pc + 3) lv (r.toList ++ st) M' (cs + G.2.2.2.2.2.2.2.1) (ss + G.2.2.2.2.2.2.2.2) post) : AW F pc lv stk M cs ss post := by
  intro K p l e s m args below meth c H locs ls Q hF hP hS hl0 hk
  obtain ⟨l1, l2, l3, l4, l5⟩ := hl
  have hts := hF.2.2.2.2.2.1
  cases hcc : vwCl[ci]? with
  | none => rw [hcc] at hc; cases hc
  | some q =>
    rw [hcc] at hc
    have hq : q.1 = G.1.cls := Option.some.inj hc
    subst hst
    have hmap : ((As.reverse ++ .ref b :: st).map (cv K)) = (As.map (cv K)).reverse ++ .ref (kB K + b) :: st.map (cv K) := by
      rw [List.map_append, List.map_reverse, List.map_cons, ← kad_lt hP hbn]
      rfl
    have hmp2 : (Value.ref (kB K + b) :: As.map (cv K)) = ((.ref b :: As).map (cv K)) := by
      rw [List.map_cons, ← kad_lt hP hbn]
      rfl
    have hrun := va_runV (Pc := xPc K G.2.2.2.2.2.1 (.ref b :: As) M) (C := G.1.cls) (b := kB K + b) (As := As.map (cv K)) (rest := st.map (cv K)) (g := F0 m pc ls ((As.reverse ++ .ref b :: st).map (cv K))) (locs := locs) (cells := cs) (slots := ss) (R := rmO F.2.2.2.2.2.2.1 F.2.2.2.2.2.2.2.1 F.2.2.2.2.2.2.2.2) (e := e) (below := below) (meth := meth) ⟨hF.1, hF.2.1, hF.2.2.2.2.2.2.1, hF.2.2.2.2.1, hts⟩ (hs K l) ⟨callB_of n hts (gt_in l3) rfl rfl rfl (hts _ l2) (hts _ l1) l4 (xroom hdp l5), hts _ hi.1, hts _ hi.2⟩
      ⟨xPc_blind _ _ _ _, by rw [← hq]; exact va_recv hF.2.2.2.2.2.2.2.2.1.1 (hP.one hbn (xcell0 hb)) hcc (q0 := 0) rfl, by rw [hmp2]; exact xpre hF hP hS hal⟩ rfl (by rw [List.length_map]; exact hn) hl0.1 hmap (lv_room (by rw [List.map_map]; simpa [Function.comp_def, cv_cat] using hw)) hd ⟨hk1, hk2⟩
    exact xback (st := st) (by rw [hmp2] at hrun; exact hrun) hS hal (fun r M' H' locs' hpost hP' hS' => k r M' hpost K p l e s m args below meth c H' locs' ls Q hF hP' hS' hl0 hk)
end CW
