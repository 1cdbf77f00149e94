-- THE REFERENCE WRITES AN ITEM: one turn
theorem la_pop {d : Nat} {M : xM} {l : List Int32} {x1 : Int32} {m p T j z : Nat} {post : Option Value → xM → Prop} (hT : TR M) (hp : mI M 0 19 = nI (p + 1)) (hp2 : p < 12) (hr : mI M 12 p = nI T) (hc : mI M 13 p = nI j) (hTl : T < 24) (hz : mI M 2 T = nI z) (hj : j ≤ 12) (hz2 : z ≤ 12) (e : j = z) (k : AW (fX6_laysAll d) 97 [(0, .ref 0), (1, .int x1), (2, .int (nI m))] [] (emM (stI M 0 19 (nI p)) 0 13 8 l) 0 0 post) : AW (fX6_laysAll d) 97 [(0, .ref 0), (1, .int x1), (2, .int (nI m))] [] (emM M 0 13 8 l) 0 0 post := by
  refine aw_aload_n dX6_laysAll_97 0 rfl ?_
  refine aw_getI dX6_laysAll_98 fl_X6_267 (((sT_emM M 0 13 8 l).TR hT).s 0 (by decide)) (((sT_emM M 0 13 8 l).TR hT).n 0 (by decide)) ?_
  refine aw_topE ((emM_a M l (show (19 : Nat) ≠ 13 by decide) (show (0 : Nat) ≠ 8 by decide)).trans hp) ?_
  refine aw_if_le 200 dX6_laysAll_101 (by decide) (fun c1 => absurd c1 (nI_p0 (by omega))) (fun c1 => ?_)
  refine aw_aload_n dX6_laysAll_104 0 rfl ?_
  refine aw_getR (b := 12) dX6_laysAll_105 fl_X6_48 rfl (((sT_emM M 0 13 8 l).TR hT).s 0 (by decide)) (((sT_emM M 0 13 8 l).TR hT).n 0 (by decide)) (((sT_emM M 0 13 8 l).TR hT).r 20) ?_
  refine aw_aload_n dX6_laysAll_108 0 rfl ?_
  refine aw_getI dX6_laysAll_109 fl_X6_267 (((sT_emM M 0 13 8 l).TR hT).s 0 (by decide)) (((sT_emM M 0 13 8 l).TR hT).n 0 (by decide)) ?_
  refine aw_topE ((emM_a M l (show (19 : Nat) ≠ 13 by decide) (show (0 : Nat) ≠ 8 by decide)).trans hp) ?_
  refine aw_iconst (v := 1) dX6_laysAll_112 (by decide) ?_
  refine aw_isubN (p + 1) 1 dX6_laysAll_113 rfl rfl (by omega) ?_
  refine aw_ialdN ((p + 1) - 1) dX6_laysAll_114 (((sT_emM M 0 13 8 l).TR hT).s 12 (by decide)) (((sT_emM M 0 13 8 l).TR hT).n 12 (by decide)) rfl (by omega) (by first | decide | omega) ?_
  refine aw_topE ((congrFun (emM_I M l (show (12 : Nat) ≠ 0 by decide) (show (12 : Nat) ≠ 8 by decide)) ((p + 1) - 1)).trans hr) ?_
  refine aw_istore_n [(3, .int (nI T)), (0, .ref 0), (1, .int x1), (2, .int (nI m))] dX6_laysAll_115 (Nat.le_of_ble_eq_true rfl) rfl ?_
  refine aw_aload_n dX6_laysAll_116 1 rfl ?_
  refine aw_getR (b := 13) dX6_laysAll_117 fl_X6_51 rfl (((sT_emM M 0 13 8 l).TR hT).s 0 (by decide)) (((sT_emM M 0 13 8 l).TR hT).n 0 (by decide)) (((sT_emM M 0 13 8 l).TR hT).r 21) ?_
  refine aw_aload_n dX6_laysAll_120 1 rfl ?_
  refine aw_getI dX6_laysAll_121 fl_X6_267 (((sT_emM M 0 13 8 l).TR hT).s 0 (by decide)) (((sT_emM M 0 13 8 l).TR hT).n 0 (by decide)) ?_
  refine aw_topE ((emM_a M l (show (19 : Nat) ≠ 13 by decide) (show (0 : Nat) ≠ 8 by decide)).trans hp) ?_
  refine aw_iconst (v := 1) dX6_laysAll_124 (by decide) ?_
  refine aw_isubN (p + 1) 1 dX6_laysAll_125 rfl rfl (by omega) ?_
  refine aw_ialdN ((p + 1) - 1) dX6_laysAll_126 (((sT_emM M 0 13 8 l).TR hT).s 13 (by decide)) (((sT_emM M 0 13 8 l).TR hT).n 13 (by decide)) rfl (by omega) (by first | decide | omega) ?_
  refine aw_topE ((congrFun (emM_I M l (show (13 : Nat) ≠ 0 by decide) (show (13 : Nat) ≠ 8 by decide)) ((p + 1) - 1)).trans hc) ?_
  refine aw_istore [(4, .int (nI j)), (3, .int (nI T)), (0, .ref 0), (1, .int x1), (2, .int (nI m))] dX6_laysAll_127 (Nat.le_of_ble_eq_true rfl) rfl ?_
  refine aw_iload dX6_laysAll_129 0 rfl ?_
  refine aw_aload_n dX6_laysAll_131 2 rfl ?_
  refine aw_getR (b := 2) dX6_laysAll_132 fl_X6_13 rfl (((sT_emM M 0 13 8 l).TR hT).s 0 (by decide)) (((sT_emM M 0 13 8 l).TR hT).n 0 (by decide)) (((sT_emM M 0 13 8 l).TR hT).r 1) ?_
  refine aw_iload_n dX6_laysAll_135 1 rfl ?_
  refine aw_ialdN T dX6_laysAll_136 (((sT_emM M 0 13 8 l).TR hT).s 2 (by decide)) (((sT_emM M 0 13 8 l).TR hT).n 2 (by decide)) rfl (by omega) (by first | decide | omega) ?_
  refine aw_topE ((congrFun (emM_I M l (show (2 : Nat) ≠ 0 by decide) (show (2 : Nat) ≠ 8 by decide)) T).trans hz) ?_
  refine aw_icmp_neN j z 153 dX6_laysAll_137 (by decide) rfl rfl (by omega) (by omega) (fun c2 => absurd e c2) (fun c2 => ?_)
  refine aw_aload_n dX6_laysAll_140 2 rfl ?_
  refine aw_dup dX6_laysAll_141 rfl ?_
  refine aw_getI dX6_laysAll_142 fl_X6_267 (((sT_emM M 0 13 8 l).TR hT).s 0 (by decide)) (((sT_emM M 0 13 8 l).TR hT).n 0 (by decide)) ?_
  refine aw_topE ((emM_a M l (show (19 : Nat) ≠ 13 by decide) (show (0 : Nat) ≠ 8 by decide)).trans hp) ?_
  refine aw_iconst (v := 1) dX6_laysAll_145 (by decide) ?_
  refine aw_isubN (p + 1) 1 dX6_laysAll_146 rfl rfl (by omega) ?_
  refine aw_putI dX6_laysAll_147 fl_X6_267 (Or.inl rfl) (((sT_emM M 0 13 8 l).TR hT).s 0 (by decide)) (((sT_emM M 0 13 8 l).TR hT).n 0 (by decide)) ?_
  refine aw_goto 197 dX6_laysAll_150 (by decide) ?_
  refine aw_goto 97 dX6_laysAll_197 (by decide) ?_
  refine aw_sub [2, 3, 4] rfl ?_
  rw [← emM_st M (nI p) l (by decide) (fun _ => by decide)] at k
  exact k
theorem la_step {d : Nat} (hd : 1 ≤ d) {M M2 : xM} {l : List Int32} {x1 x : Int32} {y : Int64} {m p T j z : Nat} {post : Option Value → xM → Prop} (hT : TR M) (hp : mI M 0 19 = nI (p + 1)) (hp2 : p < 12) (hr : mI M 12 p = nI T) (hc : mI M 13 p = nI j) (hTl : T < 24) (hz : mI M 2 T = nI z) (hj : j ≤ 12) (hz2 : z ≤ 12) (e : j < z) (hx : mI M 4 (12 * T + j) = x) (hy : mL M 5 (12 * T + j) = y) (hC : Sp (fX6_laysCell (d - 1)) [.ref 0, .int x, .long y, .int (nI m)] (emM (stI M 13 p (nI (j + 1))) 0 13 8 l) (dt none M2)) (k : AW (fX6_laysAll d) 97 [(0, .ref 0), (1, .int x1), (2, .int (nI m))] [] M2 0 0 post) : AW (fX6_laysAll d) 97 [(0, .ref 0), (1, .int x1), (2, .int (nI m))] [] (emM M 0 13 8 l) 0 0 post := by
  rw [← emM_st M (nI (j + 1)) l (by decide) (fun z => absurd z (by decide))] at hC
  refine aw_aload_n dX6_laysAll_97 0 rfl ?_
  refine aw_getI dX6_laysAll_98 fl_X6_267 (((sT_emM M 0 13 8 l).TR hT).s 0 (by decide)) (((sT_emM M 0 13 8 l).TR hT).n 0 (by decide)) ?_
  refine aw_topE ((emM_a M l (show (19 : Nat) ≠ 13 by decide) (show (0 : Nat) ≠ 8 by decide)).trans hp) ?_
  refine aw_if_le 200 dX6_laysAll_101 (by decide) (fun c1 => absurd c1 (nI_p0 (by omega))) (fun c1 => ?_)
  refine aw_aload_n dX6_laysAll_104 0 rfl ?_
  refine aw_getR (b := 12) dX6_laysAll_105 fl_X6_48 rfl (((sT_emM M 0 13 8 l).TR hT).s 0 (by decide)) (((sT_emM M 0 13 8 l).TR hT).n 0 (by decide)) (((sT_emM M 0 13 8 l).TR hT).r 20) ?_
  refine aw_aload_n dX6_laysAll_108 0 rfl ?_
  refine aw_getI dX6_laysAll_109 fl_X6_267 (((sT_emM M 0 13 8 l).TR hT).s 0 (by decide)) (((sT_emM M 0 13 8 l).TR hT).n 0 (by decide)) ?_
  refine aw_topE ((emM_a M l (show (19 : Nat) ≠ 13 by decide) (show (0 : Nat) ≠ 8 by decide)).trans hp) ?_
  refine aw_iconst (v := 1) dX6_laysAll_112 (by decide) ?_
  refine aw_isubN (p + 1) 1 dX6_laysAll_113 rfl rfl (by omega) ?_
  refine aw_ialdN ((p + 1) - 1) dX6_laysAll_114 (((sT_emM M 0 13 8 l).TR hT).s 12 (by decide)) (((sT_emM M 0 13 8 l).TR hT).n 12 (by decide)) rfl (by omega) (by first | decide | omega) ?_
  refine aw_topE ((congrFun (emM_I M l (show (12 : Nat) ≠ 0 by decide) (show (12 : Nat) ≠ 8 by decide)) ((p + 1) - 1)).trans hr) ?_
  refine aw_istore_n [(3, .int (nI T)), (0, .ref 0), (1, .int x1), (2, .int (nI m))] dX6_laysAll_115 (Nat.le_of_ble_eq_true rfl) rfl ?_
  refine aw_aload_n dX6_laysAll_116 1 rfl ?_
  refine aw_getR (b := 13) dX6_laysAll_117 fl_X6_51 rfl (((sT_emM M 0 13 8 l).TR hT).s 0 (by decide)) (((sT_emM M 0 13 8 l).TR hT).n 0 (by decide)) (((sT_emM M 0 13 8 l).TR hT).r 21) ?_
  refine aw_aload_n dX6_laysAll_120 1 rfl ?_
  refine aw_getI dX6_laysAll_121 fl_X6_267 (((sT_emM M 0 13 8 l).TR hT).s 0 (by decide)) (((sT_emM M 0 13 8 l).TR hT).n 0 (by decide)) ?_
  refine aw_topE ((emM_a M l (show (19 : Nat) ≠ 13 by decide) (show (0 : Nat) ≠ 8 by decide)).trans hp) ?_
  refine aw_iconst (v := 1) dX6_laysAll_124 (by decide) ?_
  refine aw_isubN (p + 1) 1 dX6_laysAll_125 rfl rfl (by omega) ?_
  refine aw_ialdN ((p + 1) - 1) dX6_laysAll_126 (((sT_emM M 0 13 8 l).TR hT).s 13 (by decide)) (((sT_emM M 0 13 8 l).TR hT).n 13 (by decide)) rfl (by omega) (by first | decide | omega) ?_
  refine aw_topE ((congrFun (emM_I M l (show (13 : Nat) ≠ 0 by decide) (show (13 : Nat) ≠ 8 by decide)) ((p + 1) - 1)).trans hc) ?_
  refine aw_istore [(4, .int (nI j)), (3, .int (nI T)), (0, .ref 0), (1, .int x1), (2, .int (nI m))] dX6_laysAll_127 (Nat.le_of_ble_eq_true rfl) rfl ?_
  refine aw_iload dX6_laysAll_129 0 rfl ?_
  refine aw_aload_n dX6_laysAll_131 2 rfl ?_
  refine aw_getR (b := 2) dX6_laysAll_132 fl_X6_13 rfl (((sT_emM M 0 13 8 l).TR hT).s 0 (by decide)) (((sT_emM M 0 13 8 l).TR hT).n 0 (by decide)) (((sT_emM M 0 13 8 l).TR hT).r 1) ?_
  refine aw_iload_n dX6_laysAll_135 1 rfl ?_
  refine aw_ialdN T dX6_laysAll_136 (((sT_emM M 0 13 8 l).TR hT).s 2 (by decide)) (((sT_emM M 0 13 8 l).TR hT).n 2 (by decide)) rfl (by omega) (by first | decide | omega) ?_
  refine aw_topE ((congrFun (emM_I M l (show (2 : Nat) ≠ 0 by decide) (show (2 : Nat) ≠ 8 by decide)) T).trans hz) ?_
  refine aw_icmp_neN j z 153 dX6_laysAll_137 (by decide) rfl rfl (by omega) (by omega) (fun c2 => ?_) (fun c2 => absurd c2 (by omega))
  refine aw_aload_n dX6_laysAll_153 2 rfl ?_
  refine aw_getR (b := 13) dX6_laysAll_154 fl_X6_51 rfl (((sT_emM M 0 13 8 l).TR hT).s 0 (by decide)) (((sT_emM M 0 13 8 l).TR hT).n 0 (by decide)) (((sT_emM M 0 13 8 l).TR hT).r 21) ?_
  refine aw_aload_n dX6_laysAll_157 2 rfl ?_
  refine aw_getI dX6_laysAll_158 fl_X6_267 (((sT_emM M 0 13 8 l).TR hT).s 0 (by decide)) (((sT_emM M 0 13 8 l).TR hT).n 0 (by decide)) ?_
  refine aw_topE ((emM_a M l (show (19 : Nat) ≠ 13 by decide) (show (0 : Nat) ≠ 8 by decide)).trans hp) ?_
  refine aw_iconst (v := 1) dX6_laysAll_161 (by decide) ?_
  refine aw_isubN (p + 1) 1 dX6_laysAll_162 rfl rfl (by omega) ?_
  refine aw_iload dX6_laysAll_163 0 rfl ?_
  refine aw_iconst (v := 1) dX6_laysAll_165 (by decide) ?_
  refine aw_iaddN j 1 dX6_laysAll_166 rfl rfl ?_
  refine aw_iastN ((p + 1) - 1) dX6_laysAll_167 (((sT_emM M 0 13 8 l).TR hT).s 13 (by decide)) (((sT_emM M 0 13 8 l).TR hT).n 13 (by decide)) rfl (by omega) (by first | decide | omega) ?_
  refine aw_aload_n dX6_laysAll_168 2 rfl ?_
  refine aw_aload_n dX6_laysAll_169 2 rfl ?_
  refine aw_getR (b := 4) dX6_laysAll_170 fl_X6_20 rfl (((sT_emM M 0 13 8 l).TR hT).s 0 (by decide)) (((sT_emM M 0 13 8 l).TR hT).n 0 (by decide)) (((sT_emM M 0 13 8 l).TR hT).r 3) ?_
  refine aw_bipush (v := 12) dX6_laysAll_173 (by decide) ?_
  refine aw_iload_n dX6_laysAll_175 1 rfl ?_
  refine aw_imulN 12 T dX6_laysAll_176 rfl rfl ?_
  refine aw_iload dX6_laysAll_177 0 rfl ?_
  refine aw_iaddN (12 * T) j dX6_laysAll_179 rfl rfl ?_
  refine aw_ialdN ((12 * T) + j) dX6_laysAll_180 (((sT_emM M 0 13 8 l).TR hT).s 4 (by decide)) (((sT_emM M 0 13 8 l).TR hT).n 4 (by decide)) rfl (by omega) (by first | decide | omega) ?_
  refine aw_topE ((congrFun (mI_stI_c _ _ _ (show (4 : Nat) ≠ 13 by decide)) (12 * T + j)).trans ((congrFun (emM_I M l (show (4 : Nat) ≠ 0 by decide) (show (4 : Nat) ≠ 8 by decide)) (12 * T + j)).trans hx)) ?_
  refine aw_aload_n dX6_laysAll_181 2 rfl ?_
  refine aw_getR (b := 5) dX6_laysAll_182 fl_X6_23 rfl (((sT_emM M 0 13 8 l).TR hT).s 0 (by decide)) (((sT_emM M 0 13 8 l).TR hT).n 0 (by decide)) (((sT_emM M 0 13 8 l).TR hT).r 4) ?_
  refine aw_bipush (v := 12) dX6_laysAll_185 (by decide) ?_
  refine aw_iload_n dX6_laysAll_187 1 rfl ?_
  refine aw_imulN 12 T dX6_laysAll_188 rfl rfl ?_
  refine aw_iload dX6_laysAll_189 0 rfl ?_
  refine aw_iaddN (12 * T) j dX6_laysAll_191 rfl rfl ?_
  refine aw_laldN ((12 * T) + j) dX6_laysAll_192 (((sT_emM M 0 13 8 l).TR hT).s 5 (by decide)) (((sT_emM M 0 13 8 l).TR hT).n 5 (by decide)) rfl (by omega) (by first | decide | omega) ?_
  refine aw_toplE hy ?_
  refine aw_iload_n dX6_laysAll_193 4 rfl ?_
  refine aw_callVv [.int x, .long y, .int (nI m)] [] hC dX6_laysAll_194 ml_X6_276 im_X6_laysCell (((sT_emM M 0 13 8 l).TR hT).s 0 (by decide)) (((sT_emM M 0 13 8 l).TR hT).n 0 (by decide)) rfl rfl (dl1 (d := d) (by omega)) rfl rfl (Nat.le_of_ble_eq_true rfl) rfl rfl (Nat.zero_le _) (Nat.zero_le _) ?_
  refine aw_goto 97 dX6_laysAll_197 (by decide) ?_
  refine aw_sub [2, 3, 4] rfl ?_
  exact k
theorem la_end {d : Nat} {M : xM} {l : List Int32} {x1 : Int32} {m : Nat} (hT : TR M) (hp : mI M 0 19 = 0) (hl : l.length ≤ 1500) : AW (fX6_laysAll d) 97 [(0, .ref 0), (1, .int x1), (2, .int (nI m))] [] (emM M 0 13 8 l) 0 0 (dt (some (.int (nI l.length))) (emM M 0 13 8 l)) := by
  refine aw_aload_n dX6_laysAll_97 0 rfl ?_
  refine aw_getI dX6_laysAll_98 fl_X6_267 (((sT_emM M 0 13 8 l).TR hT).s 0 (by decide)) (((sT_emM M 0 13 8 l).TR hT).n 0 (by decide)) ?_
  refine aw_topE ((emM_a M l (show (19 : Nat) ≠ 13 by decide) (show (0 : Nat) ≠ 8 by decide)).trans hp) ?_
  refine aw_if_le 200 dX6_laysAll_101 (by decide) (fun c1 => ?_) (fun c1 => absurd (by decide) c1)
  refine aw_aload_n dX6_laysAll_200 0 rfl ?_
  refine aw_getI dX6_laysAll_201 fl_X6_235 (((sT_emM M 0 13 8 l).TR hT).s 0 (by decide)) (((sT_emM M 0 13 8 l).TR hT).n 0 (by decide)) ?_
  refine aw_topE (emM_f M 0 13 8 l) ?_
  refine aw_iret dX6_laysAll_204 rfl (Nat.zero_le _) (Nat.zero_le _) ?_
  exact ⟨rfl, rfl⟩
