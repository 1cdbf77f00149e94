-- THE REFERENCE READS ITEMS: its stack of open rows
def StK (S : List (Nat × Nat)) (A : xM) : Prop := mI A 0 19 = nI S.length ∧ ∀ i, i < S.length → mI A 12 i = nI (12 + (S.getD i (0, 0)).1) ∧ mI A 13 i = nI (S.getD i (0, 0)).2
theorem StK.k {S : List (Nat × Nat)} {A C : xM} (h : StK S A) (hs : SK A C) : StK S C := ⟨hs.1.trans h.1, fun i hi => by rw [hs.2.1, hs.2.2]; exact h.2 i hi⟩
theorem StK.pop {S : List (Nat × Nat)} {x : Nat × Nat} {A : xM} (h : StK (S ++ [x]) A) : StK S (stI A 0 19 (nI S.length)) := by
  refine ⟨mI_stI_v _ _ _ _, fun i hi => ?_⟩
  have q := h.2 i (by rw [len1]; omega)
  rw [gD_l _ _ _ hi] at q
  rw [mI_stI_c _ _ _ (by decide), mI_stI_c _ _ _ (by decide)]
  exact q
theorem StK.nxt {S : List (Nat × Nat)} {t j : Nat} {A : xM} (h : StK (S ++ [(t, j)]) A) (j' : Nat) : StK (S ++ [(t, j')]) (stI A 13 S.length (nI j')) := by
  obtain ⟨h1, h2⟩ := h
  refine ⟨by rw [mI_stI_c _ _ _ (by decide), len1]; rw [len1] at h1; exact h1, fun i hi => ?_⟩
  rw [len1] at hi
  have q := h2 i (by rw [len1]; exact hi)
  rw [mI_stI_c _ _ _ (show (12 : Nat) ≠ 13 by decide)]
  by_cases c : i = S.length
  · subst c
    rw [gD_r] at q ⊢
    exact ⟨q.1, mI_stI_v _ _ _ _⟩
  · rw [gD_l _ _ _ (show i < S.length by omega)] at q ⊢
    rw [mI_stI_o _ _ _ _ c]
    exact q
theorem StK.psh {S : List (Nat × Nat)} {A : xM} (h : StK S A) (u : Nat) : StK (S ++ [(u, 0)]) (puM A S.length (12 + u)) := by
  obtain ⟨h1, h2⟩ := h
  unfold puM
  refine ⟨by rw [len1]; exact mI_stI_v _ _ _ _, fun i hi => ?_⟩
  rw [len1] at hi
  rw [mI_stI_c _ _ _ (show (12 : Nat) ≠ 0 by decide), mI_stI_c _ _ _ (show (12 : Nat) ≠ 13 by decide), mI_stI_c _ _ _ (show (13 : Nat) ≠ 0 by decide)]
  by_cases c : i = S.length
  · subst c
    rw [gD_r, mI_stI_v, mI_stI_v]
    exact ⟨rfl, rfl⟩
  · rw [mI_stI_o _ _ _ _ c, mI_stI_o _ _ _ _ c, mI_stI_c _ _ _ (show (13 : Nat) ≠ 12 by decide), gD_l _ _ _ (show i < S.length by omega)]
    exact h2 i (by omega)
theorem RFm.o {M0 A : xM} (h : RFm M0 A) {a : Nat} (ha : a = 12 ∨ a = 13) (k : Nat) (x : Int32) : RFm M0 (stI A a k x) := by
  obtain ⟨h1, h2, h3, h4, h5, h6, h7⟩ := h
  refine ⟨h1.tr ⟨rfl, rfl, rfl⟩, fun y a b c d e f => (mI_stI_c _ _ _ (by omega)).trans (h2 y a b c d e f), h3, fun i hi => ?_, fun i hi => ?_, fun j a b c d => (congrFun (mI_stI_c _ _ _ (by omega)) j).trans (h6 j a b c d), h7.k (mI_stI_c _ _ _ (by omega))⟩
  · rw [mI_stI_c _ _ _ (by omega), mI_stI_c _ _ _ (by omega)]; exact h4 i hi
  · rw [mI_stI_c _ _ _ (by omega)]; exact h5 i hi
theorem RS.o {M0 A : xM} {p : Nat} {R : pR} (h : RS M0 p R A) {a : Nat} (ha : a = 12 ∨ a = 13) (k : Nat) (x : Int32) : RS M0 p R (stI A a k x) := by
  obtain ⟨h1, h2, h3, h4, h5, h6⟩ := h
  have e0 : mI (stI A a k x) 0 = mI A 0 := mI_stI_c _ _ _ (by omega)
  refine ⟨h1.o ha k x, by rw [e0]; exact h2, by rw [e0]; exact h3, by rw [e0]; exact h4, h5, fun n hn => ?_⟩
  rw [mI_stI_c _ _ _ (show (1 : Nat) ≠ a by omega), mI_stI_c _ _ _ (show (2 : Nat) ≠ a by omega), mI_stI_c _ _ _ (show (4 : Nat) ≠ a by omega)]
  exact h6 n hn
theorem RS.d {M0 A : xM} {p : Nat} {R : pR} (h : RS M0 p R A) (x : Int32) : RS M0 p R (stI A 0 19 x) := by
  obtain ⟨h1, h2, h3, h4, h5, h6⟩ := h
  refine ⟨h1.i 19 x (by decide), (mI_stI_o _ _ _ _ (by decide)).trans h2, (mI_stI_o _ _ _ _ (by decide)).trans h3, (mI_stI_o _ _ _ _ (by decide)).trans h4, h5, fun n hn => ?_⟩
  rw [mI_stI_c _ _ _ (show (1 : Nat) ≠ 0 by decide), mI_stI_c _ _ _ (show (2 : Nat) ≠ 0 by decide), mI_stI_c _ _ _ (show (4 : Nat) ≠ 0 by decide)]
  exact h6 n hn
theorem RS.pu {M0 A : xM} {p : Nat} {R : pR} (h : RS M0 p R A) (n T : Nat) : RS M0 p R (puM A n T) := ((h.o (Or.inl rfl) n (nI T)).o (Or.inr rfl) n 0).d (nI (n + 1))
theorem ri_pop {d : Nat} {post : Option Value → xM → Prop} {A : xM} {x1 x2 : Int32} {S : List (Nat × Nat)} {t j z : Nat} (hT : TR A) (hf : mI A 0 25 = -1) (hs : StK (S ++ [(t, j)]) A) (hl : S.length < 12) (ht : t < 12) (hz : mI A 2 (12 + t) = nI z) (hz2 : z ≤ 12) (hj : j ≤ 12) (e : j = z) (k : AW (fX6_readsItem d) 123 [(0, .ref 0), (1, .int x1), (2, .int x2)] [] (stI A 0 19 (nI S.length)) 0 0 post) : AW (fX6_readsItem d) 123 [(0, .ref 0), (1, .int x1), (2, .int x2)] [] A 0 0 post := by
  have e1 : mI A 0 19 = nI (S.length + 1) := by have q := hs.1; rw [len1] at q; exact q
  have e2 := hs.2 S.length (by rw [len1]; omega)
  rw [gD_r] at e2
  refine aw_aload_n dX6_readsItem_123 0 rfl ?_
  refine aw_getI dX6_readsItem_124 fl_X6_283 (hT.s 0 (by decide)) (hT.n 0 (by decide)) ?_
  refine aw_topE hf ?_
  refine aw_if_ge 211 dX6_readsItem_127 (by decide) (fun c1 => absurd c1 (by decide)) (fun c1 => ?_)
  refine aw_aload_n dX6_readsItem_130 0 rfl ?_
  refine aw_getI dX6_readsItem_131 fl_X6_267 (hT.s 0 (by decide)) (hT.n 0 (by decide)) ?_
  refine aw_topE e1 ?_
  refine aw_if_le 211 dX6_readsItem_134 (by decide) (fun c2 => absurd c2 (nI_p0 (by omega))) (fun c2 => ?_)
  refine aw_aload_n dX6_readsItem_137 0 rfl ?_
  refine aw_getR (b := 12) dX6_readsItem_138 fl_X6_48 rfl (hT.s 0 (by decide)) (hT.n 0 (by decide)) (hT.r 20) ?_
  refine aw_aload_n dX6_readsItem_141 0 rfl ?_
  refine aw_getI dX6_readsItem_142 fl_X6_267 (hT.s 0 (by decide)) (hT.n 0 (by decide)) ?_
  refine aw_topE e1 ?_
  refine aw_iconst (v := 1) dX6_readsItem_145 (by decide) ?_
  refine aw_isubN (S.length + 1) 1 dX6_readsItem_146 rfl rfl (by omega) ?_
  refine aw_ialdN ((S.length + 1) - 1) dX6_readsItem_147 (hT.s 12 (by decide)) (hT.n 12 (by decide)) rfl (by omega) (by first | decide | omega) ?_
  refine aw_topE e2.1 ?_
  refine aw_istore_n [(3, .int (nI (12 + t))), (0, .ref 0), (1, .int x1), (2, .int x2)] dX6_readsItem_148 (Nat.le_of_ble_eq_true rfl) rfl ?_
  refine aw_aload_n dX6_readsItem_149 1 rfl ?_
  refine aw_getR (b := 13) dX6_readsItem_150 fl_X6_51 rfl (hT.s 0 (by decide)) (hT.n 0 (by decide)) (hT.r 21) ?_
  refine aw_aload_n dX6_readsItem_153 1 rfl ?_
  refine aw_getI dX6_readsItem_154 fl_X6_267 (hT.s 0 (by decide)) (hT.n 0 (by decide)) ?_
  refine aw_topE e1 ?_
  refine aw_iconst (v := 1) dX6_readsItem_157 (by decide) ?_
  refine aw_isubN (S.length + 1) 1 dX6_readsItem_158 rfl rfl (by omega) ?_
  refine aw_ialdN ((S.length + 1) - 1) dX6_readsItem_159 (hT.s 13 (by decide)) (hT.n 13 (by decide)) rfl (by omega) (by first | decide | omega) ?_
  refine aw_topE e2.2 ?_
  refine aw_istore [(4, .int (nI j)), (3, .int (nI (12 + t))), (0, .ref 0), (1, .int x1), (2, .int x2)] dX6_readsItem_160 (Nat.le_of_ble_eq_true rfl) rfl ?_
  refine aw_iload dX6_readsItem_162 0 rfl ?_
  refine aw_aload_n dX6_readsItem_164 2 rfl ?_
  refine aw_getR (b := 2) dX6_readsItem_165 fl_X6_13 rfl (hT.s 0 (by decide)) (hT.n 0 (by decide)) (hT.r 1) ?_
  refine aw_iload_n dX6_readsItem_168 1 rfl ?_
  refine aw_ialdN (12 + t) dX6_readsItem_169 (hT.s 2 (by decide)) (hT.n 2 (by decide)) rfl (by omega) (by first | decide | omega) ?_
  refine aw_topE hz ?_
  refine aw_icmp_neN j z 186 dX6_readsItem_170 (by decide) rfl rfl (by omega) (by omega) (fun c3 => absurd e c3) (fun c3 => ?_)
  refine aw_aload_n dX6_readsItem_173 2 rfl ?_
  refine aw_dup dX6_readsItem_174 rfl ?_
  refine aw_getI dX6_readsItem_175 fl_X6_267 (hT.s 0 (by decide)) (hT.n 0 (by decide)) ?_
  refine aw_topE e1 ?_
  refine aw_iconst (v := 1) dX6_readsItem_178 (by decide) ?_
  refine aw_isubN (S.length + 1) 1 dX6_readsItem_179 rfl rfl (by omega) ?_
  refine aw_putI dX6_readsItem_180 fl_X6_267 (Or.inl rfl) (hT.s 0 (by decide)) (hT.n 0 (by decide)) ?_
  refine aw_goto 208 dX6_readsItem_183 (by decide) ?_
  refine aw_goto 123 dX6_readsItem_208 (by decide) ?_
  refine aw_sub [2, 3, 4] rfl ?_
  exact k
theorem ri_step {d : Nat} (hd : 1 ≤ d) {post : Option Value → xM → Prop} {A : xM} {x1 x2 : Int32} {S : List (Nat × Nat)} {t j z : Nat} (hT : TR A) (hf : mI A 0 25 = -1) (hs : StK (S ++ [(t, j)]) A) (hl : S.length < 12) (ht : t < 12) (hz : mI A 2 (12 + t) = nI z) (hz2 : z ≤ 12) (hj : j ≤ 12) (e : j < z) {Q : xM → Prop} (hc : Sp (fX6_readsCell (d - 1)) [.ref 0, .int (nI (12 + t)), .int (nI j)] (stI A 13 S.length (nI (j + 1))) (fun r C => r = none ∧ Q C)) (k : ∀ C, Q C → AW (fX6_readsItem d) 123 [(0, .ref 0), (1, .int x1), (2, .int x2)] [] C 0 0 post) : AW (fX6_readsItem d) 123 [(0, .ref 0), (1, .int x1), (2, .int x2)] [] A 0 0 post := by
  have e1 : mI A 0 19 = nI (S.length + 1) := by have q := hs.1; rw [len1] at q; exact q
  have e2 := hs.2 S.length (by rw [len1]; omega)
  rw [gD_r] at e2
  refine aw_aload_n dX6_readsItem_123 0 rfl ?_
  refine aw_getI dX6_readsItem_124 fl_X6_283 (hT.s 0 (by decide)) (hT.n 0 (by decide)) ?_
  refine aw_topE hf ?_
  refine aw_if_ge 211 dX6_readsItem_127 (by decide) (fun c1 => absurd c1 (by decide)) (fun c1 => ?_)
  refine aw_aload_n dX6_readsItem_130 0 rfl ?_
  refine aw_getI dX6_readsItem_131 fl_X6_267 (hT.s 0 (by decide)) (hT.n 0 (by decide)) ?_
  refine aw_topE e1 ?_
  refine aw_if_le 211 dX6_readsItem_134 (by decide) (fun c2 => absurd c2 (nI_p0 (by omega))) (fun c2 => ?_)
  refine aw_aload_n dX6_readsItem_137 0 rfl ?_
  refine aw_getR (b := 12) dX6_readsItem_138 fl_X6_48 rfl (hT.s 0 (by decide)) (hT.n 0 (by decide)) (hT.r 20) ?_
  refine aw_aload_n dX6_readsItem_141 0 rfl ?_
  refine aw_getI dX6_readsItem_142 fl_X6_267 (hT.s 0 (by decide)) (hT.n 0 (by decide)) ?_
  refine aw_topE e1 ?_
  refine aw_iconst (v := 1) dX6_readsItem_145 (by decide) ?_
  refine aw_isubN (S.length + 1) 1 dX6_readsItem_146 rfl rfl (by omega) ?_
  refine aw_ialdN ((S.length + 1) - 1) dX6_readsItem_147 (hT.s 12 (by decide)) (hT.n 12 (by decide)) rfl (by omega) (by first | decide | omega) ?_
  refine aw_topE e2.1 ?_
  refine aw_istore_n [(3, .int (nI (12 + t))), (0, .ref 0), (1, .int x1), (2, .int x2)] dX6_readsItem_148 (Nat.le_of_ble_eq_true rfl) rfl ?_
  refine aw_aload_n dX6_readsItem_149 1 rfl ?_
  refine aw_getR (b := 13) dX6_readsItem_150 fl_X6_51 rfl (hT.s 0 (by decide)) (hT.n 0 (by decide)) (hT.r 21) ?_
  refine aw_aload_n dX6_readsItem_153 1 rfl ?_
  refine aw_getI dX6_readsItem_154 fl_X6_267 (hT.s 0 (by decide)) (hT.n 0 (by decide)) ?_
  refine aw_topE e1 ?_
  refine aw_iconst (v := 1) dX6_readsItem_157 (by decide) ?_
  refine aw_isubN (S.length + 1) 1 dX6_readsItem_158 rfl rfl (by omega) ?_
  refine aw_ialdN ((S.length + 1) - 1) dX6_readsItem_159 (hT.s 13 (by decide)) (hT.n 13 (by decide)) rfl (by omega) (by first | decide | omega) ?_
  refine aw_topE e2.2 ?_
  refine aw_istore [(4, .int (nI j)), (3, .int (nI (12 + t))), (0, .ref 0), (1, .int x1), (2, .int x2)] dX6_readsItem_160 (Nat.le_of_ble_eq_true rfl) rfl ?_
  refine aw_iload dX6_readsItem_162 0 rfl ?_
  refine aw_aload_n dX6_readsItem_164 2 rfl ?_
  refine aw_getR (b := 2) dX6_readsItem_165 fl_X6_13 rfl (hT.s 0 (by decide)) (hT.n 0 (by decide)) (hT.r 1) ?_
  refine aw_iload_n dX6_readsItem_168 1 rfl ?_
  refine aw_ialdN (12 + t) dX6_readsItem_169 (hT.s 2 (by decide)) (hT.n 2 (by decide)) rfl (by omega) (by first | decide | omega) ?_
  refine aw_topE hz ?_
  refine aw_icmp_neN j z 186 dX6_readsItem_170 (by decide) rfl rfl (by omega) (by omega) (fun c3 => ?_) (fun c3 => absurd c3 (by omega))
  refine aw_aload_n dX6_readsItem_186 2 rfl ?_
  refine aw_getR (b := 13) dX6_readsItem_187 fl_X6_51 rfl (hT.s 0 (by decide)) (hT.n 0 (by decide)) (hT.r 21) ?_
  refine aw_aload_n dX6_readsItem_190 2 rfl ?_
  refine aw_getI dX6_readsItem_191 fl_X6_267 (hT.s 0 (by decide)) (hT.n 0 (by decide)) ?_
  refine aw_topE e1 ?_
  refine aw_iconst (v := 1) dX6_readsItem_194 (by decide) ?_
  refine aw_isubN (S.length + 1) 1 dX6_readsItem_195 rfl rfl (by omega) ?_
  refine aw_iload dX6_readsItem_196 0 rfl ?_
  refine aw_iconst (v := 1) dX6_readsItem_198 (by decide) ?_
  refine aw_iaddN j 1 dX6_readsItem_199 rfl rfl ?_
  refine aw_iastN ((S.length + 1) - 1) dX6_readsItem_200 (hT.s 13 (by decide)) (hT.n 13 (by decide)) rfl (by omega) (by first | decide | omega) ?_
  refine aw_aload_n dX6_readsItem_201 2 rfl ?_
  refine aw_iload_n dX6_readsItem_202 1 rfl ?_
  refine aw_iload dX6_readsItem_203 0 rfl ?_
  refine aw_callVx [.int (nI (12 + t)), .int (nI j)] [] hc dX6_readsItem_205 ml_X6_351 im_X6_readsCell (((sT.I A 13 ((S.length + 1) - 1) (nI (j + 1))).TR hT).s 0 (by decide)) (((sT.I A 13 ((S.length + 1) - 1) (nI (j + 1))).TR hT).n 0 (by decide)) rfl rfl (dl1 (d := d) (by omega)) rfl rfl (Nat.le_of_ble_eq_true rfl) rfl rfl (Nat.zero_le _) (Nat.zero_le _) (fun r C hC => ?_)
  obtain ⟨rfl, hC⟩ := hC
  refine aw_nil ?_
  refine aw_goto 123 dX6_readsItem_208 (by decide) ?_
  refine aw_sub [2, 3, 4] rfl ?_
  exact k C hC
theorem ri_end {d : Nat} {post : Option Value → xM → Prop} {A : xM} {x1 x2 : Int32} {p : Nat} (hT : TR A) (hf : mI A 0 25 = -1) (hs : StK [] A) (hp : mI A 0 24 = nI p) (h : post (some (.int (nI p))) A) : AW (fX6_readsItem d) 123 [(0, .ref 0), (1, .int x1), (2, .int x2)] [] A 0 0 post := by
  refine aw_aload_n dX6_readsItem_123 0 rfl ?_
  refine aw_getI dX6_readsItem_124 fl_X6_283 (hT.s 0 (by decide)) (hT.n 0 (by decide)) ?_
  refine aw_topE hf ?_
  refine aw_if_ge 211 dX6_readsItem_127 (by decide) (fun c1 => absurd c1 (by decide)) (fun c1 => ?_)
  refine aw_aload_n dX6_readsItem_130 0 rfl ?_
  refine aw_getI dX6_readsItem_131 fl_X6_267 (hT.s 0 (by decide)) (hT.n 0 (by decide)) ?_
  refine aw_topE hs.1 ?_
  refine aw_if_le 211 dX6_readsItem_134 (by decide) (fun c2 => ?_) (fun c2 => absurd (by decide) c2)
  refine aw_aload_n dX6_readsItem_211 0 rfl ?_
  refine aw_getI dX6_readsItem_212 fl_X6_289 (hT.s 0 (by decide)) (hT.n 0 (by decide)) ?_
  refine aw_topE hp ?_
  refine aw_iret dX6_readsItem_215 rfl (Nat.zero_le _) (Nat.zero_le _) ?_
  exact h
theorem ri_err {d : Nat} {post : Option Value → xM → Prop} {A : xM} {x1 x2 : Int32} {f : Nat} (hT : TR A) (hf : mI A 0 25 = nI f) (hf2 : f < 2 ^ 31) (h : post (some (.int (mI A 0 24))) A) : AW (fX6_readsItem d) 123 [(0, .ref 0), (1, .int x1), (2, .int x2)] [] A 0 0 post := by
  refine aw_aload_n dX6_readsItem_123 0 rfl ?_
  refine aw_getI dX6_readsItem_124 fl_X6_283 (hT.s 0 (by decide)) (hT.n 0 (by decide)) ?_
  refine aw_topE hf ?_
  refine aw_if_ge 211 dX6_readsItem_127 (by decide) (fun c1 => ?_) (fun c1 => absurd (Int32.not_lt.mp (nI_nn hf2)) c1)
  refine aw_aload_n dX6_readsItem_211 0 rfl ?_
  refine aw_getI dX6_readsItem_212 fl_X6_289 (hT.s 0 (by decide)) (hT.n 0 (by decide)) ?_
  refine aw_iret dX6_readsItem_215 rfl (Nat.zero_le _) (Nat.zero_le _) ?_
  exact h
theorem ri_obj {d : Nat} (hd : 8 ≤ d) {M0 : xM} {B : Nat → Nat} {L : Nat} {x1 x2 : Int32} {post : Option Value → xM → Prop} (hS : RfS M0 B L) (g : Nat) (hrow : ∀ (p : Nat) (R : pR) (A : xM) (S : List (Nat × Nat)), RS M0 p R A → StK S A → p < L → 12 ≤ R.1 + g → S.length ≤ R.1 → sX1_isArrayTag (nI (B p)) = true → (∀ p' R' A', pArr B L g (B p) p R = .ok (p', R') → RS M0 p' R' A' → StK S A' → AW (fX6_readsItem d) 123 [(0, .ref 0), (1, .int x1), (2, .int x2)] [] A' 0 0 post) → (∀ f A', pArr B L g (B p) p R = .error f → RFm M0 A' → mI A' 0 25 = nI f → AW (fX6_readsItem d) 123 [(0, .ref 0), (1, .int x1), (2, .int x2)] [] A' 0 0 post) → ∃ Q : xM → Prop, (∀ e, 4 ≤ e → Sp (fX6_readsRow e) [.ref 0] A (fun r C => r = none ∧ Q C)) ∧ ∀ C, Q C → AW (fX6_readsItem d) 123 [(0, .ref 0), (1, .int x1), (2, .int x2)] [] C 0 0 post) : ∀ t k, 8 ≤ k → k < 14 → ∀ n j p (R : pR) (A : xM) (S : List (Nat × Nat)), RS M0 p R A → StK (S ++ [(t, j)]) A → t < R.1 → rK R t = k → rZ R t = j + n → (∀ i, j ≤ i → rW R t i = 11 ∧ rV R t i = 0) → p ≤ L → 12 ≤ R.1 + g → S.length + 1 ≤ R.1 → (∀ p' R' A', pObj B L (pArr B L g) k t n j p R = .ok (p', R') → RS M0 p' R' A' → StK S A' → AW (fX6_readsItem d) 123 [(0, .ref 0), (1, .int x1), (2, .int x2)] [] A' 0 0 post) → (∀ f A', pObj B L (pArr B L g) k t n j p R = .error f → RFm M0 A' → mI A' 0 25 = nI f → AW (fX6_readsItem d) 123 [(0, .ref 0), (1, .int x1), (2, .int x2)] [] A' 0 0 post) → AW (fX6_readsItem d) 123 [(0, .ref 0), (1, .int x1), (2, .int x2)] [] A 0 0 post := by
  intro t k hk8 hk14 n
  have hL2 := hS.2.1
  induction n with
  | zero =>
    intro j p R A S hC hs ht hkt hz hbl hpl hg hSl ok er
    obtain ⟨-, zz, a3, a4, -, -⟩ := hC.2.2.2.2.2 t ht
    have hu := hC.2.2.2.2.1
    exact ri_pop (hC.1.D hS).1 hC.2.2.1 hs (by omega) (by omega) a4 zz (by omega) (by omega) (ok p R _ rfl (hC.d _) hs.pop)
  | succ n ih =>
    intro j p R A S hC hs ht hkt hz hbl hpl hg hSl ok er
    obtain ⟨-, zz, a3, a4, -, -⟩ := hC.2.2.2.2.2 t ht
    have hu := hC.2.2.2.2.1
    have hC' := hC.o (Or.inr rfl) S.length (nI (j + 1))
    have hs' := hs.nxt (j + 1)
    have step := fun (Q : xM → Prop) hc k => ri_step (d := d) (x1 := x1) (x2 := x2) (post := post) (by omega) (hC.1.D hS).1 hC.2.2.1 hs (by omega) (by omega) a4 zz (by omega) (by omega) (Q := Q) hc k
    by_cases hm : p < L ∧ sX1_mayStand (nI k) (nI (B p)) = true
    · by_cases htag : sX1_isArrayTag (nI (B p)) = true
      · have hC2 := hC'.tag (j := j) ht (by omega) (by omega)
        have hs2 := (hs'.k (SK_w _ (12 * (12 + t) + j) 10)).k (SK_l _ (12 * (12 + t) + j) (lN (12 + R.1)))
        have hcm := pArr_cm (B := B) (L := L) (s := t) (i := j) (x := 10) (y := lN R.1) g (B p) p R ht
        obtain ⟨Q, q1, q2⟩ := hrow p (rSet R t j 10 (lN R.1)) _ (S ++ [(t, j + 1)]) hC2 hs2 hm.1 hg (by rw [len1]; exact hSl) htag
          (fun p' R' A' e hR hst => by
            rw [hcm] at e
            cases e0 : pArr B L g (B p) p R with
            | error f => rw [e0] at e; cases e
            | ok pr =>
              rw [e0] at e
              injection e with e
              obtain ⟨rfl, rfl⟩ : pr.1 = p' ∧ rSet pr.2 t j 10 (lN R.1) = R' := by
                constructor
                · exact congrArg Prod.fst e
                · exact congrArg Prod.snd e
              obtain ⟨i1, i2⟩ := pArr_in g _ _ _ _ e0 hm.1
              have kp := pArr_kp g _ _ _ _ e0 hm.1 t ht
              have eo : pObj B L (pArr B L g) k t (n + 1) j p R = pObj B L (pArr B L g) k t n (j + 1) pr.1 (rSet pr.2 t j 10 (lN R.1)) := by
                show (if p < L ∧ sX1_mayStand (nI k) (nI (B p)) = true then _ else _) = _
                rw [if_pos hm, if_pos htag, e0]
              refine ih (j + 1) pr.1 _ A' S hR hst (Nat.lt_of_lt_of_le ht i1.1) ((i1.2 t ht).1.trans hkt) (by show rZ pr.2 t = _; rw [(i1.2 t ht).2]; omega) (fun i hi => ?_) i2 (by have := i1.1; show 12 ≤ pr.2.1 + g; omega) (by have := i1.1; show S.length + 1 ≤ pr.2.1; omega) (fun p' R' A' h => ok p' R' A' (eo.trans h)) (fun f A' h => er f A' (eo.trans h))
              have q := hbl i (by omega)
              constructor
              · show xup (rW pr.2) t j 10 t i = 11
                rw [xup_k _ _ _ (by omega), kp.1]; exact q.1
              · show xup (rV pr.2) t j (lN R.1) t i = 0
                rw [xup_k _ _ _ (by omega), kp.2]; exact q.2)
          (fun f A' e hR hf => by
            rw [hcm] at e
            cases e0 : pArr B L g (B p) p R with
            | ok pr => rw [e0] at e; cases e
            | error f' =>
              rw [e0] at e
              injection e with e
              subst e
              refine er f' A' ?_ hR hf
              show (if p < L ∧ sX1_mayStand (nI k) (nI (B p)) = true then _ else _) = _
              rw [if_pos hm, if_pos htag, e0])
        exact step Q (sp_rc_t (d := d - 1) (by omega) hS hC' ht hkt hk8 hk14 (by omega) hm.1 hm.2 htag (q1 _ (by omega))) q2
      · have htf : sX1_isArrayTag (nI (B p)) = false := by
          cases e : sX1_isArrayTag (nI (B p)) with
          | false => rfl
          | true => exact absurd e htag
        have hc := sp_rc_e (d := d - 1) (by omega) hS hC' ht hkt hk8 hk14 (by omega) hm.1 hm.2 htf (hbl j (Nat.le_refl _)).1 (hbl j (Nat.le_refl _)).2
        have eo : pObj B L (pArr B L g) k t (n + 1) j p R = (match pElem B L R k (B p) (p + 1) with
            | .error f => .error f
            | .ok vp => pObj B L (pArr B L g) k t n (j + 1) vp.2 (rSet R t j (B p) vp.1)) := by
          show (if p < L ∧ sX1_mayStand (nI k) (nI (B p)) = true then _ else _) = _
          rw [if_pos hm, if_neg htag]
          cases pElem B L R k (B p) (p + 1) <;> rfl
        cases e0 : pElem B L R k (B p) (p + 1) with
        | error f =>
          rw [e0] at hc eo
          exact step (fun C => RFm M0 C ∧ mI C 0 25 = nI f) hc (fun C h => er f C eo h.1 h.2)
        | ok vp =>
          rw [e0] at hc eo
          refine step (fun C => RS M0 vp.2 (rSet R t j (B p) vp.1) C ∧ SK (stI A 13 S.length (nI (j + 1))) C) hc (fun C h => ?_)
          refine ih (j + 1) vp.2 _ C S h.1 (hs'.k h.2) ht hkt (by show rZ R t = _; omega) (fun i hi => ?_) (pElem_le e0 (by omega)) hg hSl (fun p' R' A' h => ok p' R' A' (eo.trans h)) (fun f A' h => er f A' (eo.trans h))
          have q := hbl i (by omega)
          constructor
          · show xup (rW R) t j (B p) t i = 11
            rw [xup_k _ _ _ (by omega)]; exact q.1
          · show xup (rV R) t j vp.1 t i = 0
            rw [xup_k _ _ _ (by omega)]; exact q.2
    · have eo : pObj B L (pArr B L g) k t (n + 1) j p R = .error p := by
        show (if p < L ∧ sX1_mayStand (nI k) (nI (B p)) = true then _ else _) = _
        rw [if_neg hm]
      exact step (fun C => RFm M0 C ∧ mI C 0 25 = nI p) (sp_rc_f (d := d - 1) (by omega) hS hC' ht hkt hk8 hk14 (by omega) hpl hm) (fun C h => er p C eo h.1 h.2)
theorem ri_row0 {d : Nat} (hd : 8 ≤ d) {M0 : xM} {B : Nat → Nat} {L : Nat} {x1 x2 : Int32} {post : Option Value → xM → Prop} (hS : RfS M0 B L) : ∀ (p : Nat) (R : pR) (A : xM) (S : List (Nat × Nat)), RS M0 p R A → StK S A → p < L → 12 ≤ R.1 + 0 → S.length ≤ R.1 → sX1_isArrayTag (nI (B p)) = true → (∀ p' R' A', pArr B L 0 (B p) p R = .ok (p', R') → RS M0 p' R' A' → StK S A' → AW (fX6_readsItem d) 123 [(0, .ref 0), (1, .int x1), (2, .int x2)] [] A' 0 0 post) → (∀ f A', pArr B L 0 (B p) p R = .error f → RFm M0 A' → mI A' 0 25 = nI f → AW (fX6_readsItem d) 123 [(0, .ref 0), (1, .int x1), (2, .int x2)] [] A' 0 0 post) → ∃ Q : xM → Prop, (∀ e, 4 ≤ e → Sp (fX6_readsRow e) [.ref 0] A (fun r C => r = none ∧ Q C)) ∧ ∀ C, Q C → AW (fX6_readsItem d) 123 [(0, .ref 0), (1, .int x1), (2, .int x2)] [] C 0 0 post := by
  intro p R A S hC hs hp hg hSl htag ok er
  exact ⟨_, fun e he => sp_rw_f (d := e) he hS hC hp htag (by omega), fun C h => er p C rfl h.1 h.2⟩
theorem ri_rowS {d : Nat} (hd : 8 ≤ d) {M0 : xM} {B : Nat → Nat} {L : Nat} {x1 x2 : Int32} {post : Option Value → xM → Prop} (hS : RfS M0 B L) (g : Nat) (hobj : ∀ t k, 8 ≤ k → k < 14 → ∀ n j p (R : pR) (A : xM) (S : List (Nat × Nat)), RS M0 p R A → StK (S ++ [(t, j)]) A → t < R.1 → rK R t = k → rZ R t = j + n → (∀ i, j ≤ i → rW R t i = 11 ∧ rV R t i = 0) → p ≤ L → 12 ≤ R.1 + g → S.length + 1 ≤ R.1 → (∀ p' R' A', pObj B L (pArr B L g) k t n j p R = .ok (p', R') → RS M0 p' R' A' → StK S A' → AW (fX6_readsItem d) 123 [(0, .ref 0), (1, .int x1), (2, .int x2)] [] A' 0 0 post) → (∀ f A', pObj B L (pArr B L g) k t n j p R = .error f → RFm M0 A' → mI A' 0 25 = nI f → AW (fX6_readsItem d) 123 [(0, .ref 0), (1, .int x1), (2, .int x2)] [] A' 0 0 post) → AW (fX6_readsItem d) 123 [(0, .ref 0), (1, .int x1), (2, .int x2)] [] A 0 0 post) : ∀ (p : Nat) (R : pR) (A : xM) (S : List (Nat × Nat)), RS M0 p R A → StK S A → p < L → 12 ≤ R.1 + (g + 1) → S.length ≤ R.1 → sX1_isArrayTag (nI (B p)) = true → (∀ p' R' A', pArr B L (g + 1) (B p) p R = .ok (p', R') → RS M0 p' R' A' → StK S A' → AW (fX6_readsItem d) 123 [(0, .ref 0), (1, .int x1), (2, .int x2)] [] A' 0 0 post) → (∀ f A', pArr B L (g + 1) (B p) p R = .error f → RFm M0 A' → mI A' 0 25 = nI f → AW (fX6_readsItem d) 123 [(0, .ref 0), (1, .int x1), (2, .int x2)] [] A' 0 0 post) → ∃ Q : xM → Prop, (∀ e, 4 ≤ e → Sp (fX6_readsRow e) [.ref 0] A (fun r C => r = none ∧ Q C)) ∧ ∀ C, Q C → AW (fX6_readsItem d) 123 [(0, .ref 0), (1, .int x1), (2, .int x2)] [] C 0 0 post := by
  intro p R A S hC hs hp hg hSl htag ok er
  have hL2 := hS.2.1
  have hb := (hS.2.2.2 p hp).2
  obtain ⟨tg1, tg2, tg3, tg4⟩ := tg_ok (B p) hb htag
  have hu12 := hC.2.2.2.2.1
  by_cases hu : R.1 < 12
  · by_cases hc : p + 1 < L ∧ B (p + 1) ≤ 12
    · by_cases h8 : B p % 16 < 8
      · have ea : pArr B L (g + 1) (B p) p R = pNrow B L (B p) p R := by
          unfold pArr pNrow
          rw [if_pos hu, if_pos hc]
          by_cases c2 : B p / 16 = 2
          · rw [if_pos c2, if_pos c2]
          · rw [if_neg c2, if_neg c2]
            by_cases c3 : B p / 16 = 3
            · rw [if_pos c3, if_pos c3]
            · rw [if_neg c3, if_neg c3, if_pos h8]
        cases e0 : pNrow B L (B p) p R with
        | error f =>
          refine ⟨fun C => RFm M0 C ∧ mI C 0 25 = nI f, fun e he => ?_, fun C h => er f C (ea.trans e0) h.1 h.2⟩
          have q := sp_rw_n (d := e) he hS hC hp htag hu hc h8
          rw [e0] at q
          exact q
        | ok pr =>
          refine ⟨fun C => RS M0 pr.1 pr.2 C ∧ SK A C, fun e he => ?_, fun C h => ok pr.1 pr.2 C (ea.trans e0) h.1 (hs.k h.2)⟩
          have q := sp_rw_n (d := e) he hS hC hp htag hu hc h8
          rw [e0] at q
          exact q
      · have ea : pArr B L (g + 1) (B p) p R = pObj B L (pArr B L g) (B p % 16) R.1 (B (p + 1)) 0 (p + 1 + 1) (rNew R (B p % 16) (B (p + 1))) := by
          unfold pArr
          rw [if_pos hu, if_pos hc, if_neg (fun z => h8 (tg3 z)), if_neg (fun z => h8 (by have := tg4 z; omega)), if_neg h8]
        refine ⟨fun C => C = puM (nrM A p R.1 (B p % 16) (B (p + 1)) (p + 1 + 1)) S.length (12 + R.1), fun e he => sp_rw_o (d := e) he hS hC hp htag hu hc h8 hs.1 (by omega), ?_⟩
        rintro C rfl
        have hC4 := (hC.new (k := B p % 16) (z := B (p + 1)) hu tg2 hc.2 (p + 1 + 1)).pu S.length (12 + R.1)
        have hs4 := (hs.k (SK_nrM A p R.1 (B p % 16) (B (p + 1)) (p + 1 + 1))).psh R.1
        refine hobj R.1 (B p % 16) (by omega) tg2 (B (p + 1)) 0 (p + 1 + 1) _ _ S hC4 hs4 (by show R.1 < R.1 + 1; omega) (if_pos rfl) (by rw [show rZ (rNew R (B p % 16) (B (p + 1))) R.1 = B (p + 1) from if_pos rfl]; omega) (fun i _ => ?_) (by omega) (by show 12 ≤ R.1 + 1 + g; omega) (by show S.length + 1 ≤ R.1 + 1; omega) (fun p' R' A' h => ok p' R' A' (ea.trans h)) (fun f A' h => er f A' (ea.trans h))
        rw [show rW (rNew R (B p % 16) (B (p + 1))) R.1 = fun _ => if B p % 16 < 8 then B p % 16 else 11 from if_pos rfl, show rV (rNew R (B p % 16) (B (p + 1))) R.1 = fun _ => 0 from if_pos rfl]
        exact ⟨if_neg h8, rfl⟩
    · have ea : pArr B L (g + 1) (B p) p R = .error (p + 1) := by
        unfold pArr
        rw [if_pos hu, if_neg hc]
      exact ⟨_, fun e he => sp_rw_l (d := e) he hS hC hp htag hu hc, fun C h => er (p + 1) C ea h.1 h.2⟩
  · have ea : pArr B L (g + 1) (B p) p R = .error p := by
      unfold pArr
      rw [if_neg hu]
    exact ⟨_, fun e he => sp_rw_f (d := e) he hS hC hp htag hu, fun C h => er p C ea h.1 h.2⟩
theorem ri_rows {d : Nat} (hd : 8 ≤ d) {M0 : xM} {B : Nat → Nat} {L : Nat} {x1 x2 : Int32} {post : Option Value → xM → Prop} (hS : RfS M0 B L) : ∀ g : Nat, ∀ (p : Nat) (R : pR) (A : xM) (S : List (Nat × Nat)), RS M0 p R A → StK S A → p < L → 12 ≤ R.1 + g → S.length ≤ R.1 → sX1_isArrayTag (nI (B p)) = true → (∀ p' R' A', pArr B L g (B p) p R = .ok (p', R') → RS M0 p' R' A' → StK S A' → AW (fX6_readsItem d) 123 [(0, .ref 0), (1, .int x1), (2, .int x2)] [] A' 0 0 post) → (∀ f A', pArr B L g (B p) p R = .error f → RFm M0 A' → mI A' 0 25 = nI f → AW (fX6_readsItem d) 123 [(0, .ref 0), (1, .int x1), (2, .int x2)] [] A' 0 0 post) → ∃ Q : xM → Prop, (∀ e, 4 ≤ e → Sp (fX6_readsRow e) [.ref 0] A (fun r C => r = none ∧ Q C)) ∧ ∀ C, Q C → AW (fX6_readsItem d) 123 [(0, .ref 0), (1, .int x1), (2, .int x2)] [] C 0 0 post
  | 0 => ri_row0 hd hS
  | g + 1 => ri_rowS hd hS g (ri_obj hd hS g (ri_rows hd hS g))
