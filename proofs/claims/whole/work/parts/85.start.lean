-- THE TWO OBJECTS, MADE BY THE LAW
theorem st_new {K : xK} {M : xM} {H H1 : Heap} {s : State} {args : Array Value} {ci : Nat} {q : vw_C} {kC : Class} (hts : ∀ w ∈ gt, w.before args s = true) (hU : xU K s) (hA : ∀ q, kB K ≤ q → kA K q) (hP2 : xP K true M H) (hN : mN M < 1000000) (hc : vwCl[ci]? = some q) (hci : ci < 6) (hkC : s.vm.classes[(kD K).1 ci]? = some kC) (e1 : H1[kB K + mN M]? = some (blank ((kD K).1 ci) kC)) (z1 : H1.size = kB K + mN M + 1) (o1 : ∀ q : Nat, q < kB K + mN M → H1[q]? = H[q]?) : xP K true (nwM M (0, ci)) H1 := by
  obtain ⟨g1, g2, g3, g4⟩ := xcls hc
  have hKn := hU.1.1 ci _ hc
  refine xP_nw hP2 hA z1 o1 hN ?_
  rw [xcell0 (nw_S0 M (0, ci))]
  refine ⟨_, hc, (u_born (xty ci) hts g1 hKn hkC e1 g3).to (fun j hj => ?_)⟩
  have hj' : j < xnf ci := by rw [← g2]; exact hj
  show defaultValue (xty ci j) = (xfs K (nwM M (0, ci)) ci (mN M)).getD j .null
  rw [xdf_ok ci hci j hj', List.getD_eq_getElem?_getD, xfs_get _ _ _ _ hj']
  unfold xfv
  rw [nw_I0, nw_L0, nw_R0]
  unfold xdf
  cases xty ci j <;> rfl
section LWI
variable {p : Program} {l : Launch} {e : Env} {s : State} {m : MethodId} {args : Array Value} {below : List Frame} {meth : Method} {c : Code} {H : Heap} {locs : List Loc} {Q : State → Prop} {pc cs ss : Nat} {ls : Array Slot}
theorem lw_callI {K : xK} {G : xF} {M M' : xM} {i : Nat} {rest : List Value} (hx : p.tables.exec = Jvm.exec) (hb : c.code = code) (hml : c.maxLocals = 4) (hown : s.vm.findClass RL = some m.cls) (hts : ∀ w ∈ gt, w.before args s = true) (hU : xU K s) (hP : xP K true M H) (hS : va_S (fun q => s.heap.size ≤ q) s.heap H locs) (hA : ∀ q, kA K q → s.heap.size ≤ q) (hA2 : ∀ q, kB K ≤ q → kA K q) (hs : Sp G [.ref 0] M (dt none M')) (hd : decode code pc = .ok (.invokespecial i, 3)) (hl : xML RL i G.1 G.2.1 G.2.2.1 none 0) (hr : G.2.2.2.1 = none) (hi : Cond.instanceMethod G.1 ∈ gt ∧ G.1.name = "<init>") (hbn : 0 < mN M) (hdp : G.2.2.2.2.2.2.1 ≤ 1000) (hal : G.2.2.2.2.2.1 = true) (hw : (rest.map fun v => v.category).sum ≤ 8) (hls : ls.size = 4) (hk1 : cs + G.2.2.2.2.2.2.2.1 ≤ 600000) (hk2 : ss + G.2.2.2.2.2.2.2.2 ≤ 7302250)
    (k : ∀ H' locs', xP K true M' H' → (∀ q : Nat, q < H.size → ¬ kA K q → H'[q]? = H[q]?) → va_S (fun q => s.heap.size ≤ q) s.heap H' locs' → W p l e room_1 s m args below meth c H' locs' (cs + G.2.2.2.2.2.2.2.1) (ss + G.2.2.2.2.2.2.2.2) Q (F0 m (pc + 3) ls rest)) : W p l e room_1 s m args below meth c H locs cs ss Q (F0 m pc ls (.ref (kB K) :: rest)) := by
  obtain ⟨l1, l2, l3, l4, l5⟩ := hl
  have h0 : kad K 0 = kB K := (kad_lt hP hbn).trans (Nat.add_zero _)
  have hmp2 : [Value.ref (kB K)] = ([Value.ref 0].map (cv K)) := by
    rw [List.map_cons, ← h0]
    rfl
  have hpre : ∀ U : State, U.heap = H → s.WarmedH U.vm → xPc K G.2.2.2.2.2.1 [.ref 0] M [Value.ref (kB K)].toArray U := by
    intro U hUH hW
    rw [hmp2]
    refine ⟨rfl, xU.moved hW (fun a h1 h2 => by rw [hUH]; exact hS.2.1 a h1 (Nat.not_le.mpr h1)) hU, fun _ => hA2, ?_⟩
    rw [hal, hUH]; exact hP
  have hcd : xcode G = Cond.code G.1 G.2.1 G.2.2.1 none := by unfold xcode; rw [hr]
  have hM := hs K l
  rw [hcd] at hM
  have hrun := va_runI (Pc := xPc K G.2.2.2.2.2.1 [.ref 0] M) (b := kB K) (As := []) (rest := rest) (g := F0 m pc ls (.ref (kB K) :: rest)) (locs := locs) (cells := cs) (slots := ss) (R := room_1) (e := e) (below := below) (meth := meth) ⟨hx, hb, hml, hown, hts⟩ hM ⟨callB_of 0 hts (gt_in l3) rfl rfl rfl (hts _ l2) (hts _ l1) l4 ⟨show G.2.2.2.2.2.2.1 + 1 ≤ 2048 by omega, show 8 + (G.2.2.1 + 11) + 64 * G.2.2.2.2.2.2.1 ≤ 84000 by omega⟩, hi.2, hts _ hi.1⟩
    ⟨xPc_blind _ _ _ _, hpre⟩ rfl rfl hls rfl (lv_room hw) hd ⟨hk1, hk2⟩
  intro T hT X
  obtain ⟨v, st₀, t, T', L, h1, X', hL, e1, e2, ⟨⟨r, M2, hr2, ⟨hr3, hM2⟩, hP'⟩, hz, hkeep⟩, go⟩ := hrun T hT X
  subst hr3; subst hM2
  have hv : v = none := by cases hr2; rfl
  subst hv
  rw [h1] at hz hkeep
  rw [hal] at hP'
  obtain ⟨t2, a1, b1⟩ := k T'.heap (locs ++ L) (by rw [e1]; exact hP') (fun q g1 g2 => by rw [e1]; exact hkeep q g1 g2)
    ⟨Nat.le_trans hS.1 (by rw [e1]; exact hz), fun q g1 g2 => by rw [e1, hkeep q (Nat.lt_of_lt_of_le g1 hS.1) (fun z => g2 (hA q z))]; exact hS.2.1 q g1 g2, fun q hq => by
      rcases List.mem_append.mp hq with h | h
      · exact hS.2.2 q h
      · exact hA _ (hL q h)⟩ T' rfl X'
  exact ⟨t2, go t2 a1, b1⟩
end LWI
theorem xP_al {D : va_G} {B : Nat} {A A' : Nat → Prop} {S : Nat → Nat} {I J R : ClassId} {M : xM} {H : Heap} (h : xP (D, B, A, S, I, J, R) true M H) (hA : ∀ i, i < mN M → A' (B + i)) : xP (D, B, A', S, I, J, R) false M H := ⟨h.1, hA, fun z => Bool.noConfusion z, h.2.2.2⟩
theorem kp_N : mN (kp12 12) = 90 := by decide +kernel
theorem kl_N : mN (klo 16) = 19 := (klo_S 16).2.2.1.trans (kk24_N 24)
set_option maxRecDepth 100000 in
theorem law_start {Rel : xM → xM → Prop} (hTop : ∀ MC MR, Rel MC MR → mS MC 0 = (0, 4) ∧ 0 < mN MC ∧ mS MR 0 = (0, 5) ∧ 0 < mN MR) (hF : Faces Rel) (hI : Rel (kp12 12) (klo 16)) {p : Program} {e : Env} {s : State} {m : MethodId} {below : List Frame} {meth : Method} {c : Code} (l : Launch) {b L : Nat} {xs : Nat → Int32} (hL : L ≤ 3072) (C0 : lw_At p s m meth c b L xs) : W p l e room_1 s m #[Value.ref b] below meth c s.heap [] 0 0 (lw_Z below #[Value.ref b] s) (entryFrame m ([Value.ref b] : List Value).toArray 4) := by
  obtain ⟨hx, hb, hr, hml, hown, ht, hX, hbl, hlocks, hgv⟩ := C0
  obtain ⟨D, S, I, J, R, hU⟩ := st_xU hgv ht
  have hts := gt_sub ht
  have hown2 : s.vm.findClass RL = some m.cls := hown
  generalize hB : s.heap.size = B at *
  have hU0 := hU B (fun q => B ≤ q) (fun q h => h)
  have hU1 := hU (B + 90) (fun q => B + 90 ≤ q) (fun q h => by omega)
  have hl := lv_entry [Value.ref b] (n := 4) (Nat.le_of_ble_eq_true rfl)
  rw [lg_entry_eq]
  generalize ((lg_sl [Value.ref b] ++ List.replicate (4 - (lg_sl [Value.ref b]).length) Slot.unset).toArray) = ls at hl ⊢
  have hK4 := hU0.1.1 4 _ rfl
  have hK5 := hU0.1.1 5 _ rfl
  -- the class's object
  refine W.newcK hx hb hown2 (hts _ cl_L_7) (hts _ is_X5) (hts _ in_X5) rfl dL_law_0 (by decide) (by decide) hK4.2.1 hB fun H1 kC hkC e1 z1 o1 => ?_
  have hP0 : xP (D, B, fun q => B ≤ q, S, I, J, R) true em0 s.heap := ⟨fun i hi => absurd hi (Nat.not_lt_zero _), fun i hi => absurd hi (Nat.not_lt_zero _), fun _ => hB, Nat.zero_le _⟩
  have hP1 : xP (D, B, fun q => B ≤ q, S, I, J, R) true kc0 H1 := st_new (ci := 4) hts hU0 (fun q h => h) hP0 (by decide) rfl (by decide) hkC e1 z1 o1
  have hS1 : va_S (fun q => s.heap.size ≤ q) s.heap H1 [] := ⟨by rw [z1, hB]; omega, fun q g1 g2 => o1 q (by rw [hB] at g1; exact g1), fun q hq => by cases hq⟩
  refine W.eq (g2 := F0 m 3 ls [.ref B]) rfl ?_
  refine lv_dup hx hb dL_law_3 rfl ?_
  refine lw_callI (K := (D, B, fun q => B ≤ q, S, I, J, R)) (G := fX5_init 200) (M' := kp12 12) hx hb hml hown2 hts hU0 hP1 hS1 (fun q h => by rw [hB]; exact h) (fun q h => h) (sp_X5_init (by decide)) dL_law_4 ml_L_9 rfl im_X5_init (by decide) (by decide) rfl (Nat.le_of_ble_eq_true rfl) hl.1 (by decide) (by decide) fun H2 locs2 hP2 hk2 hS2 => ?_
  have z2 : H2.size = B + 90 := by rw [hP2.2.2.1 rfl, kp_N]; rfl
  refine lv_astore_n (lv' := [(1, .ref B), (0, .ref b)]) hx hb dL_law_7 rfl hl (by decide) rfl (fun ls hl => ?_)
  -- the reference's object
  refine W.newcK hx hb hown2 (hts _ cl_L_10) (hts _ is_X6) (hts _ in_X6) rfl dL_law_8 (by decide) (by decide) hK5.2.1 z2 fun H3 kC3 hkC3 e3 z3 o3 => ?_
  have hP30 : xP (D, B + 90, fun q => B + 90 ≤ q, S, I, J, R) true em0 H2 := ⟨fun i hi => absurd hi (Nat.not_lt_zero _), fun i hi => absurd hi (Nat.not_lt_zero _), fun _ => z2, Nat.zero_le _⟩
  have hP3 : xP (D, B + 90, fun q => B + 90 ≤ q, S, I, J, R) true km0 H3 := st_new (ci := 5) hts hU1 (fun q h => h) hP30 (by decide) rfl (by decide) hkC3 e3 z3 o3
  have hS3 : va_S (fun q => s.heap.size ≤ q) s.heap H3 locs2 := ⟨by rw [z3, hB]; omega, fun q g1 g2 => (o3 q (by rw [hB] at g1; omega)).trans (hS2.2.1 q g1 g2), hS2.2.2⟩
  refine W.eq (g2 := F0 m 11 ls [.ref (B + 90)]) rfl ?_
  refine lv_dup hx hb dL_law_11 rfl ?_
  refine lw_callI (K := (D, B + 90, fun q => B + 90 ≤ q, S, I, J, R)) (G := fX6_init 200) (M' := klo 16) hx hb hml hown2 hts hU1 hP3 hS3 (fun q h => by rw [hB]; exact Nat.le_trans (Nat.le_add_right B 90) h) (fun q h => h) (sp_X6_init (by decide)) dL_law_12 ml_L_12 rfl im_X6_init (by decide) (by decide) rfl (Nat.le_of_ble_eq_true rfl) hl.1 (by decide) (by decide) fun H4 locs4 hP4 hk4 hS4 => ?_
  refine lv_astore_n (lv' := [(2, .ref (B + 90)), (1, .ref B), (0, .ref b)]) hx hb dL_law_15 rfl hl (by decide) rfl (fun ls hl => ?_)
  refine lv_iconst (v := 0) hx hb dL_law_16 (by decide) ?_
  refine lv_istore_n (lv' := [(3, .int (nI 0)), (2, .ref (B + 90)), (1, .ref B), (0, .ref b)]) hx hb dL_law_17 rfl hl (by decide) rfl (fun ls hl => ?_)
  have hPC : xP (D, B, fun q => B ≤ q ∧ q < B + 90, S, I, J, R) false (kp12 12) H4 := by
    refine (xP_al hP2 (fun i hi => ?_)).kept (fun i hi => ?_) (fun z => Bool.noConfusion z)
    · rw [kp_N] at hi; omega
    · rw [kp_N] at hi
      have hi2 : B + i < B + 90 := by omega
      exact (hk4 (B + i) (by omega) (fun z => absurd (show B + 90 ≤ B + i from z) (by omega))).trans (o3 (B + i) hi2)
  have hPR : xP (D, B + 90, fun q => B + 90 ≤ q ∧ q < B + 109, S, I, J, R) false (klo 16) H4 := xP_al hP4 (fun i hi => by rw [kl_N] at hi; omega)
  refine law_loop (KC := (D, B, fun q => B ≤ q ∧ q < B + 90, S, I, J, R)) (KR := (D, B + 90, fun q => B + 90 ≤ q ∧ q < B + 109, S, I, J, R)) (Rel := Rel) (L := L) (xs := xs) (by decide) (by decide) ⟨hx, hb, hml, hown2, hts, hX, by rw [hB]; exact hbl, hL, hU _ _ (fun q h => h.1), hU _ _ (fun q h => Nat.le_trans (Nat.le_add_right B 90) h.1), fun q h => by rw [hB]; exact h.1, fun q h => by rw [hB]; exact Nat.le_trans (Nat.le_add_right B 90) h.1, fun q h1 h2 => by have a := h1.2; have b := h2.1; omega⟩ hr hlocks hTop hF (L + 1) 0 (Nat.zero_le _) (by omega) (kp12 12) (klo 16) H4 locs4 ls ?_ ⟨hI, hPC, hPR, hS4⟩
  exact lv_sub hl [0, 3, 2, 1] rfl
