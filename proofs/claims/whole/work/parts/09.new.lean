-- NEW CELLS
def xdf (ty : FieldType) : Value := match ty with
  | .int => .int 0
  | .long => .long 0
  | _ => .null
theorem xdf_ok : ∀ ci, ci < 6 → ∀ k, k < xnf ci → defaultValue (xty ci k) = xdf (xty ci k) := by decide +kernel
theorem nw_I (M : xM) (sh : Nat × Nat) {j : Nat} (h : j ≠ mN M) : mI (nwM M sh) j = mI M j := if_neg h
theorem nw_L (M : xM) (sh : Nat × Nat) {j : Nat} (h : j ≠ mN M) : mL (nwM M sh) j = mL M j := if_neg h
theorem nw_R (M : xM) (sh : Nat × Nat) {j : Nat} (h : j ≠ mN M) : mR (nwM M sh) j = mR M j := if_neg h
theorem nw_S (M : xM) (sh : Nat × Nat) {j : Nat} (h : j ≠ mN M) : mS (nwM M sh) j = mS M j := if_neg h
theorem nw_I0 (M : xM) (sh : Nat × Nat) : mI (nwM M sh) (mN M) = fun _ => 0 := if_pos rfl
theorem nw_L0 (M : xM) (sh : Nat × Nat) : mL (nwM M sh) (mN M) = fun _ => 0 := if_pos rfl
theorem nw_R0 (M : xM) (sh : Nat × Nat) : mR (nwM M sh) (mN M) = fun _ => none := if_pos rfl
theorem nw_S0 (M : xM) (sh : Nat × Nat) : mS (nwM M sh) (mN M) = sh := if_pos rfl
theorem xcell_nw {K : xK} (M : xM) (sh : Nat × Nat) {j : Nat} (h : j ≠ mN M) : xcell K (nwM M sh) j = xcell K M j := by
  unfold xcell xfs xfv
  rw [nw_I M sh h, nw_L M sh h, nw_R M sh h, nw_S M sh h]
theorem xP_nw {K : xK} {M : xM} {sh : Nat × Nat} {H H1 : Heap} (hP : xP K true M H) (hA : ∀ q, kB K ≤ q → kA K q) (z : H1.size = kB K + mN M + 1) (oq : ∀ q : Nat, q < kB K + mN M → H1[q]? = H[q]?) (hl : mN M < 1000000) (hc : va_at (kD K) vwCl (kB K + mN M, xcell K (nwM M sh) (mN M)) H1) : xP K true (nwM M sh) H1 := by
  refine ⟨fun i hi => ?_, fun i _ => hA _ (Nat.le_add_right _ _), fun _ => z, hl⟩
  by_cases h : i = mN M
  · subst h; exact hc
  · have hi' : i < mN M := by
      have : i < mN M + 1 := hi
      omega
    rw [xcell_nw M sh h]
    exact (hP.1 i hi').kept (oq _ (by omega))
section NW
variable {F : xF} {cs ss : Nat} {pc : Nat} {M : xM} {post : Option Value → xM → Prop} {st : List Value} {lv : List (Nat × Value)}
theorem aw_new {i ci : Nat} {q : vw_C} (hal : F.2.2.2.2.2.1 = true) (hd : decode F.2.1 pc = .ok (.new i, 3)) (hc : vwCl[ci]? = some q) (hci : ci < 6) (w1 : Cond.classLink F.1.cls i q.1 ∈ gt) (w2 : Cond.instantiable q.1 q.2.2 ∈ gt) (w3 : Cond.initialized q.1 ∈ gt) (hk1 : cs + 1 ≤ F.2.2.2.2.2.2.2.1) (hk2 : ss + q.2.2 ≤ F.2.2.2.2.2.2.2.2) (hN : mN M < 1000000) (k : AW F (pc + 3) lv (.ref (mN M) :: st) (nwM M (0, ci)) (cs + 1) (ss + q.2.2) post) : AW F pc lv st M cs ss post := by
  intro K p l e s m args below meth c H locs ls Q hF hP hS hl0 hk
  have hts := hF.2.2.2.2.2.1
  have hA := hF.2.2.2.2.2.2.2.2.2 hal
  have hKn := hF.2.2.2.2.2.2.2.2.1.1.1 ci _ hc
  obtain ⟨g1, g2, g3, g4⟩ := xcls hc
  have hsz := hP.2.2.1 hal
  refine W.newcK hF.1 hF.2.1 hF.2.2.2.2.1 (hts _ w1) (hts _ w2) (hts _ w3) rfl hd hk1 hk2 hKn.2.1 hsz fun H1 kC hkC e1 z1 o1 => ?_
  have hP2 : xP K true M H := by rw [hal] at hP; exact hP
  have hPn : xP K F.2.2.2.2.2.1 (nwM M (0, ci)) H1 := by
    rw [hal]
    refine xP_nw hP2 hA z1 o1 hN ?_
    rw [xcell0 (nw_S0 M (0, ci))]
    refine ⟨_, hc, (u_born (xty ci) hts g1 hKn hkC e1 g3).to (fun j hj => ?_)⟩
    have hj' : j < xnf ci := by rw [← g2]; exact hj
    show defaultValue (xty ci j) = (xfs K (nwM M (0, ci)) ci (mN M)).getD j .null
    rw [xdf_ok ci hci j hj', List.getD_eq_getElem?_getD, xfs_get _ _ _ _ hj']
    unfold xfv
    rw [nw_I0, nw_L0, nw_R0]
    unfold xdf
    cases xty ci j <;> rfl
  have kk := k K p l e s m args below meth c H1 locs ls Q hF hPn ⟨Nat.le_trans hS.1 (by omega), fun x h1 h2 => (o1 x (by rw [← hsz]; exact Nat.lt_of_lt_of_le h1 hS.1)).trans (hS.2.1 x h1 h2), hS.2.2⟩ hl0 hk
  have kk2 : W p l e (rmO F.2.2.2.2.2.2.1 F.2.2.2.2.2.2.2.1 F.2.2.2.2.2.2.2.2) s m args below meth c H1 locs (cs + 1) (ss + q.2.2) Q (F0 m (pc + 3) ls (.ref (kad K (mN M)) :: st.map (cv K))) := kk
  rw [show kad K (mN M) = kB K + mN M from if_pos hN] at kk2
  exact kk2
theorem aw_newI {n : Int32} {N : Nat} (hal : F.2.2.2.2.2.1 = true) (hd : decode F.2.1 pc = .ok (.newarray .int, 2)) (w1 : Cond.arrayClass .int ∈ gt) (hn : ¬ n < 0) (hN : n.toNatClampNeg = N) (hb : N ≤ 100000) (hk1 : cs + 1 ≤ F.2.2.2.2.2.2.2.1) (hk2 : ss + N ≤ F.2.2.2.2.2.2.2.2) (hM : mN M < 1000000) (k : AW F (pc + 2) lv (.ref (mN M) :: st) (nwM M (1, N)) (cs + 1) (ss + N) post) : AW F pc lv (.int n :: st) M cs ss post := by
  intro K p l e s m args below meth c H locs ls Q hF hP hS hl0 hk
  have hts := hF.2.2.2.2.2.1
  have hA := hF.2.2.2.2.2.2.2.2.2 hal
  have hsz := hP.2.2.1 hal
  refine va_newaK (atype := .int) (N := N) (rest := st.map (cv K)) hF.1 hF.2.1 (hts _ w1) rfl hd rfl hn hN (by show N * 4 ≤ 536870912; omega) hk1 hk2 hsz fun H1 cA e1 z1 o1 hAr hNm => ?_
  have hcA : cA = kI K := by
    have h := (hF.2.2.2.2.2.2.2.2.1.1.2 0 _ rfl).2
    exact Option.some.inj (hNm.symm.trans h)
  subst hcA
  have hP2 : xP K true M H := by rw [hal] at hP; exact hP
  have hPn : xP K F.2.2.2.2.2.1 (nwM M (1, N)) H1 := by
    rw [hal]
    refine xP_nw hP2 hA z1 o1 hM ?_
    rw [xcell1 (nw_S0 M (1, N)), nw_I0]
    exact e1
  have kk := k K p l e s m args below meth c H1 locs ls Q hF hPn ⟨Nat.le_trans hS.1 (by omega), fun x h1 h2 => (o1 x (by rw [← hsz]; exact Nat.lt_of_lt_of_le h1 hS.1)).trans (hS.2.1 x h1 h2), hS.2.2⟩ hl0 hk
  have kk2 : W p l e (rmO F.2.2.2.2.2.2.1 F.2.2.2.2.2.2.2.1 F.2.2.2.2.2.2.2.2) s m args below meth c H1 locs (cs + 1) (ss + N) Q (F0 m (pc + 2) ls (.ref (kad K (mN M)) :: st.map (cv K))) := kk
  rw [show kad K (mN M) = kB K + mN M from if_pos hM] at kk2
  exact kk2
theorem aw_newL {n : Int32} {N : Nat} (hal : F.2.2.2.2.2.1 = true) (hd : decode F.2.1 pc = .ok (.newarray .long, 2)) (w1 : Cond.arrayClass .long ∈ gt) (hn : ¬ n < 0) (hN : n.toNatClampNeg = N) (hb : N ≤ 100000) (hk1 : cs + 1 ≤ F.2.2.2.2.2.2.2.1) (hk2 : ss + N ≤ F.2.2.2.2.2.2.2.2) (hM : mN M < 1000000) (k : AW F (pc + 2) lv (.ref (mN M) :: st) (nwM M (2, N)) (cs + 1) (ss + N) post) : AW F pc lv (.int n :: st) M cs ss post := by
  intro K p l e s m args below meth c H locs ls Q hF hP hS hl0 hk
  have hts := hF.2.2.2.2.2.1
  have hA := hF.2.2.2.2.2.2.2.2.2 hal
  have hsz := hP.2.2.1 hal
  refine va_newaK (atype := .long) (N := N) (rest := st.map (cv K)) hF.1 hF.2.1 (hts _ w1) rfl hd rfl hn hN (by show N * 8 ≤ 536870912; omega) hk1 hk2 hsz fun H1 cA e1 z1 o1 hAr hNm => ?_
  have hcA : cA = kJ K := by
    have h := (hF.2.2.2.2.2.2.2.2.1.1.2 1 _ rfl).2
    exact Option.some.inj (hNm.symm.trans h)
  subst hcA
  have hP2 : xP K true M H := by rw [hal] at hP; exact hP
  have hPn : xP K F.2.2.2.2.2.1 (nwM M (2, N)) H1 := by
    rw [hal]
    refine xP_nw hP2 hA z1 o1 hM ?_
    rw [xcell2 (nw_S0 M (2, N)), nw_L0]
    exact e1
  have kk := k K p l e s m args below meth c H1 locs ls Q hF hPn ⟨Nat.le_trans hS.1 (by omega), fun x h1 h2 => (o1 x (by rw [← hsz]; exact Nat.lt_of_lt_of_le h1 hS.1)).trans (hS.2.1 x h1 h2), hS.2.2⟩ hl0 hk
  have kk2 : W p l e (rmO F.2.2.2.2.2.2.1 F.2.2.2.2.2.2.2.1 F.2.2.2.2.2.2.2.2) s m args below meth c H1 locs (cs + 1) (ss + N) Q (F0 m (pc + 2) ls (.ref (kad K (mN M)) :: st.map (cv K))) := kk
  rw [show kad K (mN M) = kB K + mN M from if_pos hM] at kk2
  exact kk2
theorem aw_newR {i : Nat} {n : Int32} {N : Nat} (hal : F.2.2.2.2.2.1 = true) (hd : decode F.2.1 pc = .ok (.anewarray i, 3)) (w1 : Cond.classLink F.1.cls i "TapePress$Row" ∈ gt) (hn : ¬ n < 0) (hN : n.toNatClampNeg = N) (hb : N ≤ 100000) (hk1 : cs + 1 ≤ F.2.2.2.2.2.2.2.1) (hk2 : ss + N ≤ F.2.2.2.2.2.2.2.2) (hM : mN M < 1000000) (k : AW F (pc + 3) lv (.ref (mN M) :: st) (nwM M (3, N)) (cs + 1) (ss + N) post) : AW F pc lv (.int n :: st) M cs ss post := by
  intro K p l e s m args below meth c H locs ls Q hF hP hS hl0 hk
  subst hN
  have hts := hF.2.2.2.2.2.1
  have hA := hF.2.2.2.2.2.2.2.2.2 hal
  have hsz := hP.2.2.1 hal
  refine W.anew hF.1 hF.2.1 hF.2.2.2.2.1 (hts _ w1) (va_AO.use hF.2.2.2.2.2.2.2.2.1.2.2.2.2) rfl hd (rest := st.map (cv K)) rfl hn (by omega) hk1 hk2 fun cA kA' comp f1 f2 f3 f4 => ?_
  generalize hH1 : H.push ({ cls := cA, slots := Array.replicate n.toNatClampNeg .null, vm := .none } : Cell) = H1
  have z1 : H1.size = H.size + 1 := by rw [← hH1, Array.size_push]
  have e1 : H1[H.size]? = some (arrV cA n.toNatClampNeg (fun _ => .null)) := by rw [← hH1, Array.getElem?_push_size, ← arrV_new]
  have o1 : ∀ q : Nat, q < H.size → H1[q]? = H[q]? := fun q hq => by rw [← hH1, Array.getElem?_push, if_neg (Nat.ne_of_lt hq)]
  have hcA : cA = kR K := by
    obtain ⟨-, -, -, -, -, h⟩ := (hF.2.2.2.2.2.2.2.2.1.1.2 2 _ rfl).2
    exact Option.some.inj (f1.symm.trans h)
  subst hcA
  rw [hsz] at z1 e1 o1 ⊢
  have hP2 : xP K true M H := by rw [hal] at hP; exact hP
  have hPn : xP K F.2.2.2.2.2.1 (nwM M (3, n.toNatClampNeg)) H1 := by
    rw [hal]
    refine xP_nw hP2 hA z1 o1 hM ?_
    rw [xcell3 (nw_S0 M (3, n.toNatClampNeg)), nw_R0]
    exact e1
  have kk := k K p l e s m args below meth c H1 locs ls Q hF hPn ⟨Nat.le_trans hS.1 (by omega), fun x h1 h2 => (o1 x (by rw [← hsz]; exact Nat.lt_of_lt_of_le h1 hS.1)).trans (hS.2.1 x h1 h2), hS.2.2⟩ hl0 hk
  have kk2 : W p l e (rmO F.2.2.2.2.2.2.1 F.2.2.2.2.2.2.2.1 F.2.2.2.2.2.2.2.2) s m args below meth c H1 locs (cs + 1) (ss + n.toNatClampNeg) Q (F0 m (pc + 3) ls (.ref (kad K (mN M)) :: st.map (cv K))) := kk
  rw [show kad K (mN M) = kB K + mN M from if_pos hM] at kk2
  exact kk2
end NW
