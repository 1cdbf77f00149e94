-- ROWS OVER INTS THAT ARE NUMBERS
section NR
variable {F : xF} {pc : Nat} {lv : List (Nat × Value)} {st : List Value} {M : xM} {cs ss : Nat} {post : Option Value → xM → Prop}
theorem aw_iaddN (a b : Nat) {x y : Int32} (hd : decode F.2.1 pc = .ok (.iadd, 1)) (hx : x = nI a) (hy : y = nI b) (k : AW F (pc + 1) lv (.int (nI (a + b)) :: st) M cs ss post) : AW F pc lv (.int y :: .int x :: st) M cs ss post := by
  subst hx; subst hy
  refine aw_iadd hd ?_
  rw [nI_add]
  exact k
theorem aw_imulN (a b : Nat) {x y : Int32} (hd : decode F.2.1 pc = .ok (.imul, 1)) (hx : x = nI a) (hy : y = nI b) (k : AW F (pc + 1) lv (.int (nI (a * b)) :: st) M cs ss post) : AW F pc lv (.int y :: .int x :: st) M cs ss post := by
  subst hx; subst hy
  refine aw_imul hd ?_
  rw [pk_mul]
  exact k
theorem aw_isubN (a b : Nat) {x y : Int32} (hd : decode F.2.1 pc = .ok (.isub, 1)) (hx : x = nI a) (hy : y = nI b) (hle : b ≤ a) (k : AW F (pc + 1) lv (.int (nI (a - b)) :: st) M cs ss post) : AW F pc lv (.int y :: .int x :: st) M cs ss post := by
  subst hx; subst hy
  refine aw_isub hd ?_
  rw [pk_sub hle]
  exact k
theorem aw_i2lN (a : Nat) {x : Int32} (hd : decode F.2.1 pc = .ok (.i2l, 1)) (hx : x = nI a) (ha : a < 2 ^ 31) (k : AW F (pc + 1) lv (.long (lN a) :: st) M cs ss post) : AW F pc lv (.int x :: st) M cs ss post := by
  subst hx
  refine aw_i2l hd ?_
  rw [nI_l ha]
  exact k
theorem aw_iincN {i : Nat} {n : Int} {x : Int32} (a b : Nat) (lv' : List (Nat × Value)) (hd : decode F.2.1 pc = .ok (.iinc i n, 3)) (j : Nat) (hj : lv[j]? = some (i, .int x)) (hx : x = nI a) (hb : Int32.ofInt n = nI b) (hn : i < F.2.2.1) (h : (i, Value.int (nI (a + b))) :: lv.filter (fun q => !(q.1 == i) && !(q.1 + 1 == i && q.2.category == 2)) = lv') (k : AW F (pc + 3) lv' st M cs ss post) : AW F pc lv st M cs ss post :=
  aw_iinc (nI (a + b)) lv' hd j hj (by rw [hx, hb, nI_add]) hn h k
theorem aw_iincN1 {i : Nat} {x : Int32} (a : Nat) (lv' : List (Nat × Value)) (hd : decode F.2.1 pc = .ok (.iinc i (-1), 3)) (j : Nat) (hj : lv[j]? = some (i, .int x)) (hx : x = nI (a + 1)) (hn : i < F.2.2.1) (h : (i, Value.int (nI a)) :: lv.filter (fun q => !(q.1 == i) && !(q.1 + 1 == i && q.2.category == 2)) = lv') (k : AW F (pc + 3) lv' st M cs ss post) : AW F pc lv st M cs ss post :=
  aw_iinc (nI a) lv' hd j hj (by rw [hx]; exact pk_m1 a) hn h k
theorem aw_ialdN (j : Nat) {a n : Nat} {i : Int32} (hd : decode F.2.1 pc = .ok (.iaload, 1)) (ha : mS M a = (1, n)) (hn : a < mN M) (hi : i = nI j) (hj : j < n) (hb : n < 2 ^ 31) (k : AW F (pc + 1) lv (.int (mI M a j) :: st) M cs ss post) : AW F pc lv (.int i :: .ref a :: st) M cs ss post := by
  subst hi
  refine aw_iald hd ha hn (vp_in_nI hj hb) ?_
  rw [nI_clamp (Nat.lt_trans hj hb)]
  exact k
theorem aw_laldN (j : Nat) {a n : Nat} {i : Int32} (hd : decode F.2.1 pc = .ok (.laload, 1)) (ha : mS M a = (2, n)) (hn : a < mN M) (hi : i = nI j) (hj : j < n) (hb : n < 2 ^ 31) (k : AW F (pc + 1) lv (.long (mL M a j) :: st) M cs ss post) : AW F pc lv (.int i :: .ref a :: st) M cs ss post := by
  subst hi
  refine aw_lald hd ha hn (vp_in_nI hj hb) ?_
  rw [nI_clamp (Nat.lt_trans hj hb)]
  exact k
theorem aw_aaldN (j b : Nat) {a n : Nat} {i : Int32} (hd : decode F.2.1 pc = .ok (.aaload, 1)) (ha : mS M a = (3, n)) (hn : a < mN M) (hi : i = nI j) (hj : j < n) (hbd : n < 2 ^ 31) (hb : mR M a j = some b) (k : AW F (pc + 1) lv (.ref b :: st) M cs ss post) : AW F pc lv (.int i :: .ref a :: st) M cs ss post := by
  subst hi
  exact aw_aald hd ha hn (vp_in_nI hj hbd) (by rw [nI_clamp (Nat.lt_trans hj hbd)]; exact hb) k
theorem aw_iastN (j : Nat) {a n : Nat} {i : Int32} {x : Int32} (hd : decode F.2.1 pc = .ok (.iastore, 1)) (ha : mS M a = (1, n)) (hn : a < mN M) (hi : i = nI j) (hj : j < n) (hb : n < 2 ^ 31) (k : AW F (pc + 1) lv st (stI M a j x) cs ss post) : AW F pc lv (.int x :: .int i :: .ref a :: st) M cs ss post := by
  subst hi
  refine aw_iast hd ha hn (vp_in_nI hj hb) ?_
  rw [nI_clamp (Nat.lt_trans hj hb)]
  exact k
theorem aw_lastN (j : Nat) {a n : Nat} {i : Int32} {x : Int64} (hd : decode F.2.1 pc = .ok (.lastore, 1)) (ha : mS M a = (2, n)) (hn : a < mN M) (hi : i = nI j) (hj : j < n) (hb : n < 2 ^ 31) (k : AW F (pc + 1) lv st (stL M a j x) cs ss post) : AW F pc lv (.long x :: .int i :: .ref a :: st) M cs ss post := by
  subst hi
  refine aw_last hd ha hn (vp_in_nI hj hb) ?_
  rw [nI_clamp (Nat.lt_trans hj hb)]
  exact k
theorem aw_aastN (j : Nat) {a n b : Nat} {i : Int32} (hd : decode F.2.1 pc = .ok (.aastore, 1)) (ha : mS M a = (3, n)) (hn : a < mN M) (hi : i = nI j) (hj : j < n) (hbd : n < 2 ^ 31) (hb : mS M b = (0, 1)) (hbn : b < mN M) (k : AW F (pc + 1) lv st (stR M a j (some b)) cs ss post) : AW F pc lv (.ref b :: .int i :: .ref a :: st) M cs ss post := by
  subst hi
  refine aw_aast hd ha hn (vp_in_nI hj hbd) hb hbn ?_
  rw [nI_clamp (Nat.lt_trans hj hbd)]
  exact k
theorem aw_icmp_eqN (a b : Nat) {x y : Int32} {off : Int} (tgt : Nat) (hd : decode F.2.1 pc = .ok (.if_icmp .eq off, 3)) (ht : (pc : Int) + off = (tgt : Int)) (hx : x = nI a) (hy : y = nI b) (ha : a < 2 ^ 31) (hb : b < 2 ^ 31) (kt : a = b → AW F tgt lv st M cs ss post) (kf : ¬ a = b → AW F (pc + 3) lv st M cs ss post) : AW F pc lv (.int y :: .int x :: st) M cs ss post := by
  subst hx; subst hy
  exact aw_icmp_eq tgt hd ht (fun z => kt ((nI_eq ha hb).mp z)) (fun z => kf (fun q => z ((nI_eq ha hb).mpr q)))
theorem aw_icmp_neN (a b : Nat) {x y : Int32} {off : Int} (tgt : Nat) (hd : decode F.2.1 pc = .ok (.if_icmp .ne off, 3)) (ht : (pc : Int) + off = (tgt : Int)) (hx : x = nI a) (hy : y = nI b) (ha : a < 2 ^ 31) (hb : b < 2 ^ 31) (kt : ¬ a = b → AW F tgt lv st M cs ss post) (kf : a = b → AW F (pc + 3) lv st M cs ss post) : AW F pc lv (.int y :: .int x :: st) M cs ss post := by
  subst hx; subst hy
  exact aw_icmp_ne tgt hd ht (fun z => kt (fun q => z ((nI_eq ha hb).mpr q))) (fun z => kf ((nI_eq ha hb).mp z))
theorem aw_icmp_ltN (a b : Nat) {x y : Int32} {off : Int} (tgt : Nat) (hd : decode F.2.1 pc = .ok (.if_icmp .lt off, 3)) (ht : (pc : Int) + off = (tgt : Int)) (hx : x = nI a) (hy : y = nI b) (ha : a < 2 ^ 31) (hb : b < 2 ^ 31) (kt : a < b → AW F tgt lv st M cs ss post) (kf : ¬ a < b → AW F (pc + 3) lv st M cs ss post) : AW F pc lv (.int y :: .int x :: st) M cs ss post := by
  subst hx; subst hy
  exact aw_icmp_lt tgt hd ht (fun z => kt ((nI_ltI ha hb).mp z)) (fun z => kf (fun q => z ((nI_ltI ha hb).mpr q)))
theorem aw_icmp_geN (a b : Nat) {x y : Int32} {off : Int} (tgt : Nat) (hd : decode F.2.1 pc = .ok (.if_icmp .ge off, 3)) (ht : (pc : Int) + off = (tgt : Int)) (hx : x = nI a) (hy : y = nI b) (ha : a < 2 ^ 31) (hb : b < 2 ^ 31) (kt : b ≤ a → AW F tgt lv st M cs ss post) (kf : ¬ b ≤ a → AW F (pc + 3) lv st M cs ss post) : AW F pc lv (.int y :: .int x :: st) M cs ss post := by
  subst hx; subst hy
  exact aw_icmp_ge tgt hd ht (fun z => kt ((nI_leI hb ha).mp z)) (fun z => kf (fun q => z ((nI_leI hb ha).mpr q)))
theorem aw_icmp_gtN (a b : Nat) {x y : Int32} {off : Int} (tgt : Nat) (hd : decode F.2.1 pc = .ok (.if_icmp .gt off, 3)) (ht : (pc : Int) + off = (tgt : Int)) (hx : x = nI a) (hy : y = nI b) (ha : a < 2 ^ 31) (hb : b < 2 ^ 31) (kt : b < a → AW F tgt lv st M cs ss post) (kf : ¬ b < a → AW F (pc + 3) lv st M cs ss post) : AW F pc lv (.int y :: .int x :: st) M cs ss post := by
  subst hx; subst hy
  exact aw_icmp_gt tgt hd ht (fun z => kt ((nI_ltI hb ha).mp z)) (fun z => kf (fun q => z ((nI_ltI hb ha).mpr q)))
theorem aw_icmp_leN (a b : Nat) {x y : Int32} {off : Int} (tgt : Nat) (hd : decode F.2.1 pc = .ok (.if_icmp .le off, 3)) (ht : (pc : Int) + off = (tgt : Int)) (hx : x = nI a) (hy : y = nI b) (ha : a < 2 ^ 31) (hb : b < 2 ^ 31) (kt : a ≤ b → AW F tgt lv st M cs ss post) (kf : ¬ a ≤ b → AW F (pc + 3) lv st M cs ss post) : AW F pc lv (.int y :: .int x :: st) M cs ss post := by
  subst hx; subst hy
  exact aw_icmp_le tgt hd ht (fun z => kt ((nI_leI ha hb).mp z)) (fun z => kf (fun q => z ((nI_leI ha hb).mpr q)))
end NR
section NRL
variable {F : xF} {pc : Nat} {lv : List (Nat × Value)} {st : List Value} {M : xM} {cs ss : Nat} {post : Option Value → xM → Prop}
theorem aw_laddN (a b : Nat) {x y : Int64} (hd : decode F.2.1 pc = .ok (.ladd, 1)) (hx : x = lN a) (hy : y = lN b) (k : AW F (pc + 1) lv (.long (lN (a + b)) :: st) M cs ss post) : AW F pc lv (.long y :: .long x :: st) M cs ss post := by
  subst hx; subst hy
  refine aw_ladd hd ?_
  rw [lN_add]
  exact k
theorem aw_lmulN (a b : Nat) {x y : Int64} (hd : decode F.2.1 pc = .ok (.lmul, 1)) (hx : x = lN a) (hy : y = lN b) (k : AW F (pc + 1) lv (.long (lN (a * b)) :: st) M cs ss post) : AW F pc lv (.long y :: .long x :: st) M cs ss post := by
  subst hx; subst hy
  refine aw_lmul hd ?_
  rw [lN_mul]
  exact k
theorem aw_ldivN (a b : Nat) {x y : Int64} (hd : decode F.2.1 pc = .ok (.ldiv, 1)) (hx : x = lN a) (hy : y = lN b) (ha : a < 2 ^ 63) (h0 : 0 < b) (hb : b < 2 ^ 63) (k : AW F (pc + 1) lv (.long (lN (a / b)) :: st) M cs ss post) : AW F pc lv (.long y :: .long x :: st) M cs ss post := by
  subst hx; subst hy
  refine aw_ldiv hd (fun z => ?_) ?_
  · have := (pk_lEQ hb (by decide : (0 : Nat) < 2 ^ 63)).mp z
    omega
  · rw [pk_lDiv ha h0 hb]
    exact k
theorem aw_lremN (a b : Nat) {x y : Int64} (hd : decode F.2.1 pc = .ok (.lrem, 1)) (hx : x = lN a) (hy : y = lN b) (ha : a < 2 ^ 63) (h0 : 0 < b) (hb : b < 2 ^ 63) (k : AW F (pc + 1) lv (.long (lN (a % b)) :: st) M cs ss post) : AW F pc lv (.long y :: .long x :: st) M cs ss post := by
  subst hx; subst hy
  refine aw_lrem hd (fun z => ?_) ?_
  · have := (pk_lEQ hb (by decide : (0 : Nat) < 2 ^ 63)).mp z
    omega
  · rw [pk_lRem ha h0 hb]
    exact k
theorem aw_l2iN (a : Nat) {x : Int64} (hd : decode F.2.1 pc = .ok (.l2i, 1)) (hx : x = lN a) (k : AW F (pc + 1) lv (.int (nI a) :: st) M cs ss post) : AW F pc lv (.long x :: st) M cs ss post := by
  subst hx
  refine aw_l2i hd ?_
  rw [lN_i]
  exact k
theorem aw_leqN (a b : Nat) {x y : Int64} {off : Int} (tgt : Nat) (hd : decode F.2.1 pc = .ok (.lcmp, 1)) (hd2 : decode F.2.1 (pc + 1) = .ok (.ifCond .eq off, 3)) (ht : ((pc + 1 : Nat) : Int) + off = (tgt : Int)) (hx : x = lN a) (hy : y = lN b) (ha : a < 2 ^ 63) (hb : b < 2 ^ 63) (kt : a = b → AW F tgt lv st M cs ss post) (kf : ¬ a = b → AW F (pc + 1 + 3) lv st M cs ss post) : AW F pc lv (.long y :: .long x :: st) M cs ss post := by
  subst hx; subst hy
  exact aw_leq tgt hd hd2 ht (fun z => kt ((pk_lEQ ha hb).mp z)) (fun z => kf (fun q => z ((pk_lEQ ha hb).mpr q)))
theorem aw_lneN (a b : Nat) {x y : Int64} {off : Int} (tgt : Nat) (hd : decode F.2.1 pc = .ok (.lcmp, 1)) (hd2 : decode F.2.1 (pc + 1) = .ok (.ifCond .ne off, 3)) (ht : ((pc + 1 : Nat) : Int) + off = (tgt : Int)) (hx : x = lN a) (hy : y = lN b) (ha : a < 2 ^ 63) (hb : b < 2 ^ 63) (kt : ¬ a = b → AW F tgt lv st M cs ss post) (kf : a = b → AW F (pc + 1 + 3) lv st M cs ss post) : AW F pc lv (.long y :: .long x :: st) M cs ss post := by
  subst hx; subst hy
  exact aw_lne tgt hd hd2 ht (fun z => kt (fun q => z ((pk_lEQ ha hb).mpr q))) (fun z => kf ((pk_lEQ ha hb).mp z))
theorem aw_lltN (a b : Nat) {x y : Int64} {off : Int} (tgt : Nat) (hd : decode F.2.1 pc = .ok (.lcmp, 1)) (hd2 : decode F.2.1 (pc + 1) = .ok (.ifCond .lt off, 3)) (ht : ((pc + 1 : Nat) : Int) + off = (tgt : Int)) (hx : x = lN a) (hy : y = lN b) (ha : a < 2 ^ 63) (hb : b < 2 ^ 63) (kt : a < b → AW F tgt lv st M cs ss post) (kf : ¬ a < b → AW F (pc + 1 + 3) lv st M cs ss post) : AW F pc lv (.long y :: .long x :: st) M cs ss post := by
  subst hx; subst hy
  exact aw_llt tgt hd hd2 ht (fun z => kt ((pk_lLT ha hb).mp z)) (fun z => kf (fun q => z ((pk_lLT ha hb).mpr q)))
theorem aw_lgeN (a b : Nat) {x y : Int64} {off : Int} (tgt : Nat) (hd : decode F.2.1 pc = .ok (.lcmp, 1)) (hd2 : decode F.2.1 (pc + 1) = .ok (.ifCond .ge off, 3)) (ht : ((pc + 1 : Nat) : Int) + off = (tgt : Int)) (hx : x = lN a) (hy : y = lN b) (ha : a < 2 ^ 63) (hb : b < 2 ^ 63) (kt : b ≤ a → AW F tgt lv st M cs ss post) (kf : ¬ b ≤ a → AW F (pc + 1 + 3) lv st M cs ss post) : AW F pc lv (.long y :: .long x :: st) M cs ss post := by
  subst hx; subst hy
  exact aw_lge tgt hd hd2 ht (fun z => kt ((pk_lLE hb ha).mp z)) (fun z => kf (fun q => z ((pk_lLE hb ha).mpr q)))
theorem aw_lgtN (a b : Nat) {x y : Int64} {off : Int} (tgt : Nat) (hd : decode F.2.1 pc = .ok (.lcmp, 1)) (hd2 : decode F.2.1 (pc + 1) = .ok (.ifCond .gt off, 3)) (ht : ((pc + 1 : Nat) : Int) + off = (tgt : Int)) (hx : x = lN a) (hy : y = lN b) (ha : a < 2 ^ 63) (hb : b < 2 ^ 63) (kt : b < a → AW F tgt lv st M cs ss post) (kf : ¬ b < a → AW F (pc + 1 + 3) lv st M cs ss post) : AW F pc lv (.long y :: .long x :: st) M cs ss post := by
  subst hx; subst hy
  exact aw_lgt tgt hd hd2 ht (fun z => kt ((pk_lLT hb ha).mp z)) (fun z => kf (fun q => z ((pk_lLT hb ha).mpr q)))
theorem aw_lleN (a b : Nat) {x y : Int64} {off : Int} (tgt : Nat) (hd : decode F.2.1 pc = .ok (.lcmp, 1)) (hd2 : decode F.2.1 (pc + 1) = .ok (.ifCond .le off, 3)) (ht : ((pc + 1 : Nat) : Int) + off = (tgt : Int)) (hx : x = lN a) (hy : y = lN b) (ha : a < 2 ^ 63) (hb : b < 2 ^ 63) (kt : a ≤ b → AW F tgt lv st M cs ss post) (kf : ¬ a ≤ b → AW F (pc + 1 + 3) lv st M cs ss post) : AW F pc lv (.long y :: .long x :: st) M cs ss post := by
  subst hx; subst hy
  exact aw_lle tgt hd hd2 ht (fun z => kt ((pk_lLE ha hb).mp z)) (fun z => kf (fun q => z ((pk_lLE ha hb).mpr q)))
end NRL
section NRE
variable {F : xF} {pc : Nat} {lv : List (Nat × Value)} {st : List Value} {M : xM} {cs ss : Nat} {post : Option Value → xM → Prop}
theorem aw_topE {x y : Int32} (e : x = y) (k : AW F pc lv (.int y :: st) M cs ss post) : AW F pc lv (.int x :: st) M cs ss post := e ▸ k
theorem aw_toplE {x y : Int64} (e : x = y) (k : AW F pc lv (.long y :: st) M cs ss post) : AW F pc lv (.long x :: st) M cs ss post := e ▸ k
theorem aw_topdE {x y : UInt64} (e : x = y) (k : AW F pc lv (.double y :: st) M cs ss post) : AW F pc lv (.double x :: st) M cs ss post := e ▸ k
theorem aw_topfE {x y : UInt32} (e : x = y) (k : AW F pc lv (.float y :: st) M cs ss post) : AW F pc lv (.float x :: st) M cs ss post := e ▸ k
end NRE
-- stretches of a cell
def xfl {α : Type} (f : Nat → Nat → α) (a lo n : Nat) (g : Nat → α) : Nat → Nat → α := fun x y => if x = a ∧ lo ≤ y ∧ y < lo + n then g (y - lo) else f x y
def flI (M : xM) (a lo n : Nat) (g : Nat → Int32) : xM := (xfl M.1 a lo n g, M.2)
def flL (M : xM) (a lo n : Nat) (g : Nat → Int64) : xM := (M.1, xfl M.2.1 a lo n g, M.2.2)
theorem xfl_0 {α : Type} (f : Nat → Nat → α) (a lo : Nat) (g : Nat → α) : xfl f a lo 0 g = f := by
  funext x y
  unfold xfl
  rw [if_neg (by omega)]
theorem xfl_s {α : Type} (f : Nat → Nat → α) (a lo n : Nat) (g : Nat → α) {v : α} (hv : v = g n) : xup (xfl f a lo n g) a (lo + n) v = xfl f a lo (n + 1) g := by
  subst hv
  funext x y
  unfold xup xfl
  by_cases hx : x = a
  · subst hx
    by_cases hy : y = lo + n
    · subst hy
      rw [if_pos rfl, if_pos rfl, if_pos (by omega)]
      congr 1
      omega
    · rw [if_pos rfl, if_neg hy]
      by_cases h : lo ≤ y ∧ y < lo + n
      · rw [if_pos ⟨rfl, h⟩, if_pos (by omega)]
      · rw [if_neg (by omega), if_neg (by omega)]
  · rw [if_neg hx, if_neg (by omega), if_neg (by omega)]
theorem xfl_in {α : Type} (f : Nat → Nat → α) {a lo n y : Nat} (g : Nat → α) (h : lo ≤ y ∧ y < lo + n) : xfl f a lo n g a y = g (y - lo) := if_pos ⟨rfl, h⟩
theorem xfl_at {α : Type} (f : Nat → Nat → α) {a lo n j : Nat} (g : Nat → α) (h : j < n) : xfl f a lo n g a (lo + j) = g j := by
  rw [xfl_in f g ⟨by omega, by omega⟩, Nat.add_sub_cancel_left]
theorem xfl_ox {α : Type} (f : Nat → Nat → α) {a lo n x : Nat} (g : Nat → α) (h : x ≠ a) : xfl f a lo n g x = f x := by
  funext y
  exact if_neg (by omega)
theorem xfl_oy {α : Type} (f : Nat → Nat → α) {a lo n y : Nat} (g : Nat → α) (h : y < lo ∨ lo + n ≤ y) (x : Nat) : xfl f a lo n g x y = f x y := if_neg (by omega)
theorem flI_0 (M : xM) (a lo : Nat) (g : Nat → Int32) : flI M a lo 0 g = M := by unfold flI; rw [xfl_0]
theorem flL_0 (M : xM) (a lo : Nat) (g : Nat → Int64) : flL M a lo 0 g = M := by unfold flL; rw [xfl_0]
theorem flI_s (M : xM) (a lo n : Nat) (g : Nat → Int32) {v : Int32} (hv : v = g n) : stI (flI M a lo n g) a (lo + n) v = flI M a lo (n + 1) g := by unfold stI flI; rw [xfl_s _ _ _ _ _ hv]
theorem flL_s (M : xM) (a lo n : Nat) (g : Nat → Int64) {v : Int64} (hv : v = g n) : stL (flL M a lo n g) a (lo + n) v = flL M a lo (n + 1) g := by unfold stL flL; rw [xfl_s _ _ _ _ _ hv]
theorem flIL_s (M : xM) (a lo b lo' n : Nat) (g : Nat → Int32) (h : Nat → Int64) {v : Int32} {w : Int64} (hv : v = g n) (hw : w = h n) : stL (stI (flL (flI M a lo n g) b lo' n h) a (lo + n) v) b (lo' + n) w = flL (flI M a lo (n + 1) g) b lo' (n + 1) h := by
  show stL (flL (stI (flI M a lo n g) a (lo + n) v) b lo' n h) b (lo' + n) w = _
  rw [flI_s _ _ _ _ _ hv, flL_s _ _ _ _ _ hw]
theorem flIL_0 (M : xM) (a lo b lo' : Nat) (g : Nat → Int32) (h : Nat → Int64) : flL (flI M a lo 0 g) b lo' 0 h = M := by rw [flI_0, flL_0]
-- reading
theorem mI_flI_ne (M : xM) {a lo n x : Nat} {g : Nat → Int32} (h : x ≠ a) : mI (flI M a lo n g) x = mI M x := xfl_ox M.1 g h
theorem mI_flI_oy (M : xM) {a lo n x y : Nat} {g : Nat → Int32} (h : y < lo ∨ lo + n ≤ y) : mI (flI M a lo n g) x y = mI M x y := xfl_oy M.1 g h x
theorem mI_flI_at (M : xM) {a lo n j : Nat} {g : Nat → Int32} (h : j < n) : mI (flI M a lo n g) a (lo + j) = g j := xfl_at M.1 g h
theorem mI_flL (M : xM) (a lo n : Nat) (g : Nat → Int64) : mI (flL M a lo n g) = mI M := rfl
theorem mL_flL_ne (M : xM) {a lo n x : Nat} {g : Nat → Int64} (h : x ≠ a) : mL (flL M a lo n g) x = mL M x := xfl_ox M.2.1 g h
theorem mL_flL_oy (M : xM) {a lo n x y : Nat} {g : Nat → Int64} (h : y < lo ∨ lo + n ≤ y) : mL (flL M a lo n g) x y = mL M x y := xfl_oy M.2.1 g h x
theorem mL_flL_at (M : xM) {a lo n j : Nat} {g : Nat → Int64} (h : j < n) : mL (flL M a lo n g) a (lo + j) = g j := xfl_at M.2.1 g h
theorem mL_flI (M : xM) (a lo n : Nat) (g : Nat → Int32) : mL (flI M a lo n g) = mL M := rfl
theorem mI_stI_s (M : xM) (a k : Nat) (v : Int32) : mI (stI M a k v) a k = v := xup_s M.1 a k v
theorem mI_stI_ne (M : xM) {a b : Nat} (k : Nat) (v : Int32) (h : b ≠ a) : mI (stI M a k v) b = mI M b := xup_n M.1 k v h
theorem mI_stI_k (M : xM) {a b k j : Nat} (v : Int32) (h : j ≠ k) : mI (stI M a k v) b j = mI M b j := xup_k M.1 a v h b
theorem mL_stL_s (M : xM) (a k : Nat) (v : Int64) : mL (stL M a k v) a k = v := xup_s M.2.1 a k v
theorem mL_stL_ne (M : xM) {a b : Nat} (k : Nat) (v : Int64) (h : b ≠ a) : mL (stL M a k v) b = mL M b := xup_n M.2.1 k v h
theorem mL_stL_k (M : xM) {a b k j : Nat} (v : Int64) (h : j ≠ k) : mL (stL M a k v) b j = mL M b j := xup_k M.2.1 a v h b
theorem mI_stL (M : xM) (a k : Nat) (v : Int64) : mI (stL M a k v) = mI M := rfl
theorem mL_stI (M : xM) (a k : Nat) (v : Int32) : mL (stI M a k v) = mL M := rfl
