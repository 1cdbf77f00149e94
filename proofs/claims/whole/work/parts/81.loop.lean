def Faces (Rel : xM → xM → Prop) : Prop := Fc_make Rel ∧ Fc_kind Rel ∧ Fc_size Rel ∧ Fc_drop Rel ∧ Fc_gather Rel ∧ Fc_copyOf Rel ∧ Fc_get Rel ∧ Fc_set Rel ∧ Fc_usable Rel ∧ Fc_look Rel ∧ Fc_put Rel ∧ Fc_swap Rel ∧ Fc_went Rel ∧ Fc_carry Rel ∧ Fc_convert Rel ∧ Fc_shape Rel ∧ Fc_sum Rel ∧ Fc_mode Rel ∧ Fc_lay Rel ∧ Fc_tape Rel ∧ Fc_poke Rel ∧ Fc_cut Rel ∧ Fc_seek Rel ∧ Fc_read Rel ∧ Fc_readAs Rel ∧ Fc_skip Rel ∧ Fc_relay Rel ∧ Fc_slack Rel ∧ Fc_find Rel ∧ Fc_laid Rel ∧ Fc_part Rel ∧ Fc_hangs Rel ∧ Fc_far Rel ∧ Fc_twin Rel ∧ Fc_called Rel ∧ Fc_named Rel ∧ Fc_count Rel
set_option maxRecDepth 100000 in
set_option maxHeartbeats 4000000 in
theorem law_loop {p : Program} {l : Launch} {e : Env} {s : State} {m : MethodId} {below : List Frame} {meth : Method} {c : Code} {b L : Nat} {xs : Nat → Int32} {KC KR : xK} {Rel : xM → xM → Prop} {cs ss : Nat} (hk1 : cs ≤ 600000) (hk2 : ss ≤ 7302250) (hC : lwX p s m meth c b L xs KC KR) (hr : meth.sig.returnType = ret) (hlocks : meth.locks = false) (hTop : ∀ MC MR, Rel MC MR → mS MC 0 = (0, 4) ∧ 0 < mN MC ∧ mS MR 0 = (0, 5) ∧ 0 < mN MR) (hF : Faces Rel) :
    ∀ (n i : Nat), i ≤ L → L < i + 6 * n → ∀ (MC MR : xM) (H : Heap) (locs : List Loc) (ls : Array Slot), lv_has ls 4 [(3, .int (nI i)), (0, .ref b), (1, .ref (kB KC)), (2, .ref (kB KR))] → lwS Rel s KC KR MC MR H locs → W p l e room_1 s m #[Value.ref b] below meth c H locs cs ss (lw_Z below #[Value.ref b] s) (F0 m 18 ls []) := by
  obtain ⟨hx, hb, hml, hown, hts, hX, hbl, hL, hUC, hUR, hAC, hAR, hCR⟩ := id hC
  have hend : ∀ (MC MR : xM) (H : Heap) (locs : List Loc) (ls : Array Slot), lwS Rel s KC KR MC MR H locs → W p l e room_1 s m #[Value.ref b] below meth c H locs cs ss (lw_Z below #[Value.ref b] s) (F0 m 1417 ls []) := by
    intro MC MR H locs ls hst
    obtain ⟨hR, hPC, hPR, hS⟩ := hst
    refine lv_iconst (v := 1) hx hb dL_law_1417 (by decide) ?_
    refine va_forget (fun q hq => hS.2.2 q hq) ?_
    refine W.widen (k := 600000) (n := 7302250) hk1 hk2 ?_
    exact lw_ret (Drawn.sameBut.refl s.drawn lw_cs) hx hb hr hlocks dL_law_1418
  intro n
  induction n with
  | zero =>
    intro i h1 h2
    exact absurd h2 (by omega)
  | succ n ih =>
    intro i h1 h2 MC MR H locs ls hl hst
    have hS := hst.2.2.2
    refine lv_iload_n hx hb dL_law_18 rfl (lv_at hl 0 rfl) ?_
    refine lv_aload_n hx hb dL_law_19 rfl (lv_at hl 1 rfl) ?_
    refine va_slen hx hb hX hbl (Nat.not_le.mpr hbl) hS dL_law_20 ?_
    refine lv_bipush (v := 6) hx hb dL_law_21 (by decide) ?_
    refine lv_isub hx hb dL_law_23 ?_
    have hsub : (nI L - nI 6).toInt = (L : Int) - 6 := pk_sub_toInt (by omega) (by omega)
    have hin : (nI i).toInt = (i : Int) := nI_toInt (by omega)
    refine lv_icmp_gt (tgt := 1417) hx hb dL_law_24 (by decide) (fun z => hend MC MR H locs ls hst) (fun z => ?_)
    have hle : i + 6 ≤ L := by
      rcases Nat.lt_or_ge L (i + 6) with q | q
      · exact absurd (Int32.lt_iff_toInt_lt.mpr (show (nI L - nI 6).toInt < (nI i).toInt by rw [hsub, hin]; omega)) z
      · exact q
    refine lv_aload_n hx hb dL_law_27 rfl (lv_at hl 1 rfl) ?_
    refine lv_iload_n hx hb dL_law_28 rfl (lv_at hl 0 rfl) ?_
    refine lw_sld i hx hb hX hbl hS rfl (by omega) hL dL_law_29 ?_
    refine lv_bipush (v := 63) hx hb dL_law_30 (by decide) ?_
    refine lv_iand hx hb dL_law_32 ?_
    have hback : ∀ (MC MR : xM) (H : Heap) (locs : List Loc) (ls : Array Slot), lv_has ls 4 [(3, .int (nI i)), (0, .ref b), (1, .ref (kB KC)), (2, .ref (kB KR))] → lwS Rel s KC KR MC MR H locs → W p l e room_1 s m #[Value.ref b] below meth c H locs cs ss (lw_Z below #[Value.ref b] s) (F0 m 1411 ls []) := by
      intro MC MR H locs ls hl hst
      refine lv_iinc (v := nI (i + 6)) (lv' := [(3, .int (nI (i + 6))), (0, .ref b), (1, .ref (kB KC)), (2, .ref (kB KR))]) hx hb dL_law_1411 hl (k := 0) rfl (nI_add i 6) (by decide) rfl (fun ls hl => ?_)
      refine lv_goto (tgt := 18) hx hb dL_law_1414 (by decide) ?_
      exact ih (i + 6) hle (by omega) MC MR H locs ls hl hst
    obtain ⟨j, hj, ej⟩ := pk_andE (xs i) (m := 63) 6 rfl
    rw [ej]
    have hjt : (nI j).toInt = (j : Int) := nI_toInt (by omega)
    by_cases q0 : j = 0
    · subst q0
      exact lv_tableIn (tgt := 196) hx hb dL_law_33 (by decide) (by decide) rfl (by decide) (law_make hk1 hk2 hC hTop hF.1 i hle hst ls hl hback)
    by_cases q1 : j = 1
    · subst q1
      exact lv_tableIn (tgt := 259) hx hb dL_law_33 (by decide) (by decide) rfl (by decide) (law_kind hk1 hk2 hC hTop hF.2.1 i hle hst ls hl hback)
    by_cases q2 : j = 2
    · subst q2
      exact lv_tableIn (tgt := 282) hx hb dL_law_33 (by decide) (by decide) rfl (by decide) (law_size hk1 hk2 hC hTop hF.2.2.1 i hle hst ls hl hback)
    by_cases q3 : j = 3
    · subst q3
      exact lv_tableIn (tgt := 305) hx hb dL_law_33 (by decide) (by decide) rfl (by decide) (law_drop hk1 hk2 hC hTop hF.2.2.2.1 i hle hst ls hl hback)
    by_cases q4 : j = 4
    · subst q4
      exact lv_tableIn (tgt := 328) hx hb dL_law_33 (by decide) (by decide) rfl (by decide) (law_gather hk1 hk2 hC hTop hF.2.2.2.2.1 i hle hst ls hl hback)
    by_cases q5 : j = 5
    · subst q5
      exact lv_tableIn (tgt := 351) hx hb dL_law_33 (by decide) (by decide) rfl (by decide) (law_copyOf hk1 hk2 hC hTop hF.2.2.2.2.2.1 i hle hst ls hl hback)
    by_cases q6 : j = 6
    · subst q6
      exact lv_tableIn (tgt := 374) hx hb dL_law_33 (by decide) (by decide) rfl (by decide) (law_get hk1 hk2 hC hTop hF.2.2.2.2.2.2.1 i hle hst ls hl hback)
    by_cases q7 : j = 7
    · subst q7
      exact lv_tableIn (tgt := 418) hx hb dL_law_33 (by decide) (by decide) rfl (by decide) (law_set hk1 hk2 hC hTop hF.2.2.2.2.2.2.2.1 i hle hst ls hl hback)
    by_cases q8 : j = 8
    · subst q8
      exact lv_tableIn (tgt := 501) hx hb dL_law_33 (by decide) (by decide) rfl (by decide) (law_usable hk1 hk2 hC hTop hF.2.2.2.2.2.2.2.2.1 i hle hst ls hl hback)
    by_cases q9 : j = 9
    · subst q9
      exact lv_tableIn (tgt := 544) hx hb dL_law_33 (by decide) (by decide) rfl (by decide) (law_look hk1 hk2 hC hTop hF.2.2.2.2.2.2.2.2.2.1 i hle hst ls hl hback)
    by_cases q10 : j = 10
    · subst q10
      exact lv_tableIn (tgt := 588) hx hb dL_law_33 (by decide) (by decide) rfl (by decide) (law_put hk1 hk2 hC hTop hF.2.2.2.2.2.2.2.2.2.2.1 i hle hst ls hl hback)
    by_cases q11 : j = 11
    · subst q11
      exact lv_tableIn (tgt := 671) hx hb dL_law_33 (by decide) (by decide) rfl (by decide) (law_swap hk1 hk2 hC hTop hF.2.2.2.2.2.2.2.2.2.2.2.1 i hle hst ls hl hback)
    by_cases q12 : j = 12
    · subst q12
      exact lv_tableIn (tgt := 714) hx hb dL_law_33 (by decide) (by decide) rfl (by decide) (law_went hk1 hk2 hC hTop hF.2.2.2.2.2.2.2.2.2.2.2.2.1 i hle hst ls hl hback)
    by_cases q13 : j = 13
    · subst q13
      exact lv_tableIn (tgt := 737) hx hb dL_law_33 (by decide) (by decide) rfl (by decide) (law_carry hk1 hk2 hC hTop hF.2.2.2.2.2.2.2.2.2.2.2.2.2.1 i hle hst ls hl hback)
    by_cases q14 : j = 14
    · subst q14
      exact lv_tableIn (tgt := 800) hx hb dL_law_33 (by decide) (by decide) rfl (by decide) (law_convert hk1 hk2 hC hTop hF.2.2.2.2.2.2.2.2.2.2.2.2.2.2.1 i hle hst ls hl hback)
    by_cases q15 : j = 15
    · subst q15
      exact lv_tableIn (tgt := 833) hx hb dL_law_33 (by decide) (by decide) rfl (by decide) (law_shape hk1 hk2 hC hTop hF.2.2.2.2.2.2.2.2.2.2.2.2.2.2.2.1 i hle hst ls hl hback)
    by_cases q16 : j = 16
    · subst q16
      exact lv_tableIn (tgt := 866) hx hb dL_law_33 (by decide) (by decide) rfl (by decide) (law_sum hk1 hk2 hC hTop hF.2.2.2.2.2.2.2.2.2.2.2.2.2.2.2.2.1 i hle hst ls hl hback)
    by_cases q17 : j = 17
    · subst q17
      exact lv_tableIn (tgt := 900) hx hb dL_law_33 (by decide) (by decide) rfl (by decide) (law_mode hk1 hk2 hC hTop hF.2.2.2.2.2.2.2.2.2.2.2.2.2.2.2.2.2.1 i hle hst ls hl hback)
    by_cases q18 : j = 18
    · subst q18
      exact lv_tableIn (tgt := 923) hx hb dL_law_33 (by decide) (by decide) rfl (by decide) (law_lay hk1 hk2 hC hTop hF.2.2.2.2.2.2.2.2.2.2.2.2.2.2.2.2.2.2.1 i hle hst ls hl hback)
    by_cases q19 : j = 19
    · subst q19
      exact lv_tableIn (tgt := 946) hx hb dL_law_33 (by decide) (by decide) rfl (by decide) (law_tape hk1 hk2 hC hTop hF.2.2.2.2.2.2.2.2.2.2.2.2.2.2.2.2.2.2.2.1 i hle hst ls hl hback)
    by_cases q20 : j = 20
    · subst q20
      exact lv_tableIn (tgt := 969) hx hb dL_law_33 (by decide) (by decide) rfl (by decide) (law_poke hk1 hk2 hC hTop hF.2.2.2.2.2.2.2.2.2.2.2.2.2.2.2.2.2.2.2.2.1 i hle hst ls hl hback)
    by_cases q21 : j = 21
    · subst q21
      exact lv_tableIn (tgt := 1002) hx hb dL_law_33 (by decide) (by decide) rfl (by decide) (law_cut hk1 hk2 hC hTop hF.2.2.2.2.2.2.2.2.2.2.2.2.2.2.2.2.2.2.2.2.2.1 i hle hst ls hl hback)
    by_cases q22 : j = 22
    · subst q22
      exact lv_tableIn (tgt := 1025) hx hb dL_law_33 (by decide) (by decide) rfl (by decide) (law_seek hk1 hk2 hC hTop hF.2.2.2.2.2.2.2.2.2.2.2.2.2.2.2.2.2.2.2.2.2.2.1 i hle hst ls hl hback)
    by_cases q23 : j = 23
    · subst q23
      exact lv_tableIn (tgt := 1048) hx hb dL_law_33 (by decide) (by decide) rfl (by decide) (law_read hk1 hk2 hC hTop hF.2.2.2.2.2.2.2.2.2.2.2.2.2.2.2.2.2.2.2.2.2.2.2.1 i hle hst ls hl hback)
    by_cases q24 : j = 24
    · subst q24
      exact lv_tableIn (tgt := 1061) hx hb dL_law_33 (by decide) (by decide) rfl (by decide) (law_readAs hk1 hk2 hC hTop hF.2.2.2.2.2.2.2.2.2.2.2.2.2.2.2.2.2.2.2.2.2.2.2.2.1 i hle hst ls hl hback)
    by_cases q25 : j = 25
    · subst q25
      exact lv_tableIn (tgt := 1084) hx hb dL_law_33 (by decide) (by decide) rfl (by decide) (law_skip hk1 hk2 hC hTop hF.2.2.2.2.2.2.2.2.2.2.2.2.2.2.2.2.2.2.2.2.2.2.2.2.2.1 i hle hst ls hl hback)
    by_cases q26 : j = 26
    · subst q26
      exact lv_tableIn (tgt := 1097) hx hb dL_law_33 (by decide) (by decide) rfl (by decide) (law_relay hk1 hk2 hC hTop hF.2.2.2.2.2.2.2.2.2.2.2.2.2.2.2.2.2.2.2.2.2.2.2.2.2.2.1 i hle hst ls hl hback)
    by_cases q27 : j = 27
    · subst q27
      exact lv_tableIn (tgt := 1120) hx hb dL_law_33 (by decide) (by decide) rfl (by decide) (law_slack hk1 hk2 hC hTop hF.2.2.2.2.2.2.2.2.2.2.2.2.2.2.2.2.2.2.2.2.2.2.2.2.2.2.2.1 i hle hst ls hl hback)
    by_cases q28 : j = 28
    · subst q28
      exact lv_tableIn (tgt := 1143) hx hb dL_law_33 (by decide) (by decide) rfl (by decide) (law_find hk1 hk2 hC hTop hF.2.2.2.2.2.2.2.2.2.2.2.2.2.2.2.2.2.2.2.2.2.2.2.2.2.2.2.2.1 i hle hst ls hl hback)
    by_cases q29 : j = 29
    · subst q29
      exact lv_tableIn (tgt := 1166) hx hb dL_law_33 (by decide) (by decide) rfl (by decide) (law_laid hk1 hk2 hC hTop hF.2.2.2.2.2.2.2.2.2.2.2.2.2.2.2.2.2.2.2.2.2.2.2.2.2.2.2.2.2.1 i hle hst ls hl hback)
    by_cases q30 : j = 30
    · subst q30
      exact lv_tableIn (tgt := 1199) hx hb dL_law_33 (by decide) (by decide) rfl (by decide) (law_part hk1 hk2 hC hTop hF.2.2.2.2.2.2.2.2.2.2.2.2.2.2.2.2.2.2.2.2.2.2.2.2.2.2.2.2.2.2.1 i hle hst ls hl hback)
    by_cases q31 : j = 31
    · subst q31
      exact lv_tableIn (tgt := 1232) hx hb dL_law_33 (by decide) (by decide) rfl (by decide) (law_hangs hk1 hk2 hC hTop hF.2.2.2.2.2.2.2.2.2.2.2.2.2.2.2.2.2.2.2.2.2.2.2.2.2.2.2.2.2.2.2.1 i hle hst ls hl hback)
    by_cases q32 : j = 32
    · subst q32
      exact lv_tableIn (tgt := 1255) hx hb dL_law_33 (by decide) (by decide) rfl (by decide) (law_far hk1 hk2 hC hTop hF.2.2.2.2.2.2.2.2.2.2.2.2.2.2.2.2.2.2.2.2.2.2.2.2.2.2.2.2.2.2.2.2.1 i hle hst ls hl hback)
    by_cases q33 : j = 33
    · subst q33
      exact lv_tableIn (tgt := 1288) hx hb dL_law_33 (by decide) (by decide) rfl (by decide) (law_twin hk1 hk2 hC hTop hF.2.2.2.2.2.2.2.2.2.2.2.2.2.2.2.2.2.2.2.2.2.2.2.2.2.2.2.2.2.2.2.2.2.1 i hle hst ls hl hback)
    by_cases q34 : j = 34
    · subst q34
      exact lv_tableIn (tgt := 1311) hx hb dL_law_33 (by decide) (by decide) rfl (by decide) (law_called hk1 hk2 hC hTop hF.2.2.2.2.2.2.2.2.2.2.2.2.2.2.2.2.2.2.2.2.2.2.2.2.2.2.2.2.2.2.2.2.2.2.1 i hle hst ls hl hback)
    by_cases q35 : j = 35
    · subst q35
      exact lv_tableIn (tgt := 1335) hx hb dL_law_33 (by decide) (by decide) rfl (by decide) (law_named hk1 hk2 hC hTop hF.2.2.2.2.2.2.2.2.2.2.2.2.2.2.2.2.2.2.2.2.2.2.2.2.2.2.2.2.2.2.2.2.2.2.2.1 i hle hst ls hl hback)
    by_cases q36 : j = 36
    · subst q36
      exact lv_tableIn (tgt := 1388) hx hb dL_law_33 (by decide) (by decide) rfl (by decide) (law_count hk1 hk2 hC hTop hF.2.2.2.2.2.2.2.2.2.2.2.2.2.2.2.2.2.2.2.2.2.2.2.2.2.2.2.2.2.2.2.2.2.2.2.2 i hle hst ls hl hback)
    exact lv_tableOut (tgt := 1411) hx hb dL_law_33 (Or.inr (by rw [hjt]; omega)) (by decide) (hback MC MR H locs ls hl hst)
