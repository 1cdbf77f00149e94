-- ROWS OVER INTS THAT ARE NUMBERS
section NR
variable {F : xF} {pc : Nat} {lv : List (Nat × Value)} {st : List Value} {M : xM} {cs ss : Nat} {post : Option Value → xM → Prop}
theorem aw_iaddN (a b : Nat) {x y : Int32} (hd : decode F.2.1 pc = .ok (.iadd, 1)) (hx : x = nI a) (hy : y = nI b) (k : AW F (pc + 1) lv (.int (nI (a + b)) :: st) M cs ss post) : AW F pc lv (.int y :: .int x :: st) M cs ss post := by
  subst hx; subst hy
  refine aw_iadd hd ?_
  rw [nI_add]
  exact k
theorem aw_imulN (a b : Nat) {x y : Int32} (hd : decode F.2.1 pc = .ok (.imul, 1)) (hx : x = nI a) (hy : y = nI b) (k : AW F (pc + 1) lv (.int (nI (a * b)) :: st) M cs ss post) : AW F pc lv (.int y :: .int x :: st) M cs ss post := by
  subst hx; subst hy
  refine aw_imul hd ?_
  rw [pk_mul]
  exact k
theorem aw_isubN (a b : Nat) {x y : Int32} (hd : decode F.2.1 pc = .ok (.isub, 1)) (hx : x = nI a) (hy : y = nI b) (hle : b ≤ a) (k : AW F (pc + 1) lv (.int (nI (a - b)) :: st) M cs ss post) : AW F pc lv (.int y :: .int x :: st) M cs ss post := by
  subst hx; subst hy
  refine aw_isub hd ?_
  rw [pk_sub hle]
  exact k
theorem aw_i2lN (a : Nat) {x : Int32} (hd : decode F.2.1 pc = .ok (.i2l, 1)) (hx : x = nI a) (ha : a < 2 ^ 31) (k : AW F (pc + 1) lv (.long (lN a) :: st) M cs ss post) : AW F pc lv (.int x :: st) M cs ss post := by
  subst hx
  refine aw_i2l hd ?_
  rw [nI_l ha]
  exact k
theorem aw_iincN {i : Nat} {n : Int} {x : Int32} (a b : Nat) (lv' : List (Nat × Value)) (hd : decode F.2.1 pc = .ok (.iinc i n, 3)) (j : Nat) (hj : lv[j]? = some (i, .int x)) (hx : x = nI a) (hb : Int32.ofInt n = nI b) (hn : i < F.2.2.1) (h : (i, Value.int (nI (a + b))) :: lv.filter (fun q => !(q.1 == i) && !(q.1 + 1 == i && q.2.category == 2)) = lv') (k : AW F (pc + 3) lv' st M cs ss post) : AW F pc lv st M cs ss post :=
  aw_iinc (nI (a + b)) lv' hd j hj (by rw [hx, hb, nI_add]) hn h k
theorem aw_iincN1 {i : Nat} {x : Int32} (a : Nat) (lv' : List (Nat × Value)) (hd : decode F.2.1 pc = .ok (.iinc i (-1), 3)) (j : Nat) (hj : lv[j]? = some (i, .int x)) (hx : x = nI (a + 1)) (hn : i < F.2.2.1) (h : (i, Value.int (nI a)) :: lv.filter (fun q => !(q.1 == i) && !(q.1 + 1 == i && q.2.category == 2)) = lv') (k : AW F (pc + 3) lv' st M cs ss post) : AW F pc lv st M cs ss post :=
  aw_iinc (nI a) lv' hd j hj (by rw [hx]; exact pk_m1 a) hn h k
theorem aw_ialdN (j : Nat) {a n : Nat} {i : Int32} (hd : decode F.2.1 pc = .ok (.iaload, 1)) (ha : mS M a = (1, n)) (hn : a < mN M) (hi : i = nI j) (hj : j < n) (hb : n < 2 ^ 31) (k : AW F (pc + 1) lv (.int (mI M a j) :: st) M cs ss post) : AW F pc lv (.int i :: .ref a :: st) M cs ss post := by
  subst hi
  refine aw_iald hd ha hn (vp_in_nI hj hb) ?_
  rw [nI_clamp (Nat.lt_trans hj hb)]
  exact k
theorem aw_laldN (j : Nat) {a n : Nat} {i : Int32} (hd : decode F.2.1 pc = .ok (.laload, 1)) (ha : mS M a = (2, n)) (hn : a < mN M) (hi : i = nI j) (hj : j < n) (hb : n < 2 ^ 31) (k : AW F (pc + 1) lv (.long (mL M a j) :: st) M cs ss post) : AW F pc lv (.int i :: .ref a :: st) M cs ss post := by
  subst hi
  refine aw_lald hd ha hn (vp_in_nI hj hb) ?_
  rw [nI_clamp (Nat.lt_trans hj hb)]
  exact k
theorem aw_aaldN (j b : Nat) {a n : Nat} {i : Int32} (hd : decode F.2.1 pc = .ok (.aaload, 1)) (ha : mS M a = (3, n)) (hn : a < mN M) (hi : i = nI j) (hj : j < n) (hbd : n < 2 ^ 31) (hb : mR M a j = some b) (k : AW F (pc + 1) lv (.ref b :: st) M cs ss post) : AW F pc lv (.int i :: .ref a :: st) M cs ss post := by
  subst hi
  exact aw_aald hd ha hn (vp_in_nI hj hbd) (by rw [nI_clamp (Nat.lt_trans hj hbd)]; exact hb) k
theorem aw_iastN (j : Nat) {a n : Nat} {i : Int32} {x : Int32} (hd : decode F.2.1 pc = .ok (.iastore, 1)) (ha : mS M a = (1, n)) (hn : a < mN M) (hi : i = nI j) (hj : j < n) (hb : n < 2 ^ 31) (k : AW F (pc + 1) lv st (stI M a j x) cs ss post) : AW F pc lv (.int x :: .int i :: .ref a :: st) M cs ss post := by
  subst hi
  refine aw_iast hd ha hn (vp_in_nI hj hb) ?_
  rw [nI_clamp (Nat.lt_trans hj hb)]
  exact k
theorem aw_lastN (j : Nat) {a n : Nat} {i : Int32} {x : Int64} (hd : decode F.2.1 pc = .ok (.lastore, 1)) (ha : mS M a = (2, n)) (hn : a < mN M) (hi : i = nI j) (hj : j < n) (hb : n < 2 ^ 31) (k : AW F (pc + 1) lv st (stL M a j x) cs ss post) : AW F pc lv (.long x :: .int i :: .ref a :: st) M cs ss post := by
  subst hi
  refine aw_last hd ha hn (vp_in_nI hj hb) ?_
  rw [nI_clamp (Nat.lt_trans hj hb)]
  exact k
theorem aw_aastN (j : Nat) {a n b : Nat} {i : Int32} (hd : decode F.2.1 pc = .ok (.aastore, 1)) (ha : mS M a = (3, n)) (hn : a < mN M) (hi : i = nI j) (hj : j < n) (hbd : n < 2 ^ 31) (hb : mS M b = (0, 1)) (hbn : b < mN M) (k : AW F (pc + 1) lv st (stR M a j (some b)) cs ss post) : AW F pc lv (.ref b :: .int i :: .ref a :: st) M cs ss post := by
  subst hi
  refine aw_aast hd ha hn (vp_in_nI hj hbd) hb hbn ?_
  rw [nI_clamp (Nat.lt_trans hj hbd)]
  exact k
theorem aw_icmp_eqN (a b : Nat) {x y : Int32} {off : Int} (tgt : Nat) (hd : decode F.2.1 pc = .ok (.if_icmp .eq off, 3)) (ht : (pc : Int) + off = (tgt : Int)) (hx : x = nI a) (hy : y = nI b) (ha : a < 2 ^ 31) (hb : b < 2 ^ 31) (kt : a = b → AW F tgt lv st M cs ss post) (kf : ¬ a = b → AW F (pc + 3) lv st M cs ss post) : AW F pc lv (.int y :: .int x :: st) M cs ss post := by
  subst hx; subst hy
  exact aw_icmp_eq tgt hd ht (fun z => kt ((nI_eq ha hb).mp z)) (fun z => kf (fun q => z ((nI_eq ha hb).mpr q)))
theorem aw_icmp_neN (a b : Nat) {x y : Int32} {off : Int} (tgt : Nat) (hd : decode F.2.1 pc = .ok (.if_icmp .ne off, 3)) (ht : (pc : Int) + off = (tgt : Int)) (hx : x = nI a) (hy : y = nI b) (ha : a < 2 ^ 31) (hb : b < 2 ^ 31) (kt : ¬ a = b → AW F tgt lv st M cs ss post) (kf : a = b → AW F (pc + 3) lv st M cs ss post) : AW F pc lv (.int y :: .int x :: st) M cs ss post := by
  subst hx; subst hy
  exact aw_icmp_ne tgt hd ht (fun z => kt (fun q => z ((nI_eq ha hb).mpr q))) (fun z => kf ((nI_eq ha hb).mp z))
theorem aw_icmp_ltN (a b : Nat) {x y : Int32} {off : Int} (tgt : Nat) (hd : decode F.2.1 pc = .ok (.if_icmp .lt off, 3)) (ht : (pc : Int) + off = (tgt : Int)) (hx : x = nI a) (hy : y = nI b) (ha : a < 2 ^ 31) (hb : b < 2 ^ 31) (kt : a < b → AW F tgt lv st M cs ss post) (kf : ¬ a < b → AW F (pc + 3) lv st M cs ss post) : AW F pc lv (.int y :: .int x :: st) M cs ss post := by
  subst hx; subst hy
  exact aw_icmp_lt tgt hd ht (fun z => kt ((nI_ltI ha hb).mp z)) (fun z => kf (fun q => z ((nI_ltI ha hb).mpr q)))
theorem aw_icmp_geN (a b : Nat) {x y : Int32} {off : Int} (tgt : Nat) (hd : decode F.2.1 pc = .ok (.if_icmp .ge off, 3)) (ht : (pc : Int) + off = (tgt : Int)) (hx : x = nI a) (hy : y = nI b) (ha : a < 2 ^ 31) (hb : b < 2 ^ 31) (kt : b ≤ a → AW F tgt lv st M cs ss post) (kf : ¬ b ≤ a → AW F (pc + 3) lv st M cs ss post) : AW F pc lv (.int y :: .int x :: st) M cs ss post := by
  subst hx; subst hy
  exact aw_icmp_ge tgt hd ht (fun z => kt ((nI_leI hb ha).mp z)) (fun z => kf (fun q => z ((nI_leI hb ha).mpr q)))
theorem aw_icmp_gtN (a b : Nat) {x y : Int32} {off : Int} (tgt : Nat) (hd : decode F.2.1 pc = .ok (.if_icmp .gt off, 3)) (ht : (pc : Int) + off = (tgt : Int)) (hx : x = nI a) (hy : y = nI b) (ha : a < 2 ^ 31) (hb : b < 2 ^ 31) (kt : b < a → AW F tgt lv st M cs ss post) (kf : ¬ b < a → AW F (pc + 3) lv st M cs ss post) : AW F pc lv (.int y :: .int x :: st) M cs ss post := by
  subst hx; subst hy
  exact aw_icmp_gt tgt hd ht (fun z => kt ((nI_ltI hb ha).mp z)) (fun z => kf (fun q => z ((nI_ltI hb ha).mpr q)))
theorem aw_icmp_leN (a b : Nat) {x y : Int32} {off : Int} (tgt : Nat) (hd : decode F.2.1 pc = .ok (.if_icmp .le off, 3)) (ht : (pc : Int) + off = (tgt : Int)) (hx : x = nI a) (hy : y = nI b) (ha : a < 2 ^ 31) (hb : b < 2 ^ 31) (kt : a ≤ b → AW F tgt lv st M cs ss post) (kf : ¬ a ≤ b → AW F (pc + 3) lv st M cs ss post) : AW F pc lv (.int y :: .int x :: st) M cs ss post := by
  subst hx; subst hy
  exact aw_icmp_le tgt hd ht (fun z => kt ((nI_leI ha hb).mp z)) (fun z => kf (fun q => z ((nI_leI ha hb).mpr q)))
end NR
