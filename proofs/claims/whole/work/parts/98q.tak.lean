-- A ROW TAKES A VALUE
def hwt (k w : Nat) : Nat := if k < 8 then k else w
noncomputable def hvl (k w : Nat) (v : Int64) : Int64 := if k < 8 then wid w k v else v
theorem prim_k {M : xM} {a k : Nat} (hk : k < 14) (h : mI M a 0 = nI k) : sX2_isPrimitive M a = decide (k < 8) := by
  unfold sX2_isPrimitive
  rw [h]
  exact (by decide : ∀ k, k < 14 → sX0_isKind (nI k) = decide (k < 8)) k hk
def tkM (M : xM) (x : Int32) (y : Int64) : xM := stL (stI M 0 27 x) 0 28 y
theorem sT_tkM (M : xM) (x : Int32) (y : Int64) : sT M (tkM M x y) := ⟨rfl, rfl, rfl⟩
theorem xup_xup {α : Type} (f : Nat → Nat → α) (a k : Nat) (v w : α) : xup (xup f a k v) a k w = xup f a k w := by
  funext x y
  unfold xup
  split
  · split
    · rfl
    · rfl
  · rfl
theorem xup_same {α : Type} {f : Nat → Nat → α} {a k : Nat} {v : α} (h : f a k = v) : xup f a k v = f := by
  funext x y
  unfold xup
  split
  · rename_i e
    split
    · rename_i e2
      rw [e, e2, h]
    · rfl
  · rfl
theorem stI_same {M : xM} {a k : Nat} {v : Int32} (h : mI M a k = v) : stI M a k v = M := by
  unfold stI
  rw [show xup M.1 a k v = M.1 from xup_same h]
theorem tkM_tk (M : xM) (x x' : Int32) (y y' : Int64) : stL (stI (tkM M x y) 0 27 x') 0 28 y' = tkM M x' y' := by
  unfold tkM stL stI
  show (xup (xup M.1 0 27 x) 0 27 x', xup (xup M.2.1 0 28 y) 0 28 y', M.2.2) = (xup M.1 0 27 x', xup M.2.1 0 28 y', M.2.2)
  rw [xup_xup, xup_xup]
def tkB (x : Bool) (k w : Nat) (v : Int64) : Bool := if k < 8 then decide (w < 8) && sX6_turns (nI w) (nI k) else if w = 11 ∨ k = 12 then true else if k = 8 then decide (w = 4) else if k = 9 then decide (w = 8) else if k = 10 then decide (w = 9) else if k = 11 then decide (w = 9) && decide (3 ≤ v) else decide (w = 10) && x
def kd4 (M : xM) (v : Int64) : Bool := decide (mI M 1 v.toInt32.toNatClampNeg = 4)
theorem sp_X2_hold {d : Nat} (hd : 5 ≤ d) {M : xM} {a : Nat} (p k w : Nat) (v : Int64) (hR : RowAt M a) (hp : p < 12) (hk : k < 14) (hkk : mI M a 0 = nI k) (hw : k < 8 → w < 8) (h6 : w = 6 → okF 6 v) : Sp (fX2_hold d) [.ref a, .int (nI p), .int (nI w), .long v] M (dt none (filM M a p (nI (hwt k w)) (hvl k w v))) := by
  refine Sp.of pn_X2 (Nat.le_of_ble_eq_true rfl) (fun h => Bool.noConfusion h) ?_
  unfold hwt hvl
  have hpk := prim_k hk hkk
  by_cases c : k < 8
  · rw [if_pos c, if_pos c]
    refine aw_aload_n dX2_hold_0 0 rfl ?_
    refine aw_callVi [] [] (sp_X2_isPrimitive (d := d - 1) (by omega) hR) dX2_hold_1 ml_X2_32 im_X2_isPrimitive hR.1 hR.n0 rfl rfl (dl1 (d := d) (by omega)) rfl rfl (Nat.le_of_ble_eq_true rfl) rfl rfl (Nat.zero_le _) (Nat.zero_le _) ?_
    refine aw_if_eq 28 dX2_hold_4 (by decide) (fun c1 => absurd c1 (by rw [hpk, decide_eq_true c]; decide)) (fun c1 => ?_)
    refine aw_aload_n dX2_hold_7 0 rfl ?_
    refine aw_iload_n dX2_hold_8 1 rfl ?_
    refine aw_aload_n dX2_hold_9 0 rfl ?_
    refine aw_getI dX2_hold_10 fl_X2_9 hR.1 hR.n0 ?_
    refine aw_topE hkk ?_
    refine aw_iload_n dX2_hold_13 2 rfl ?_
    refine aw_aload_n dX2_hold_14 0 rfl ?_
    refine aw_getI dX2_hold_15 fl_X2_9 hR.1 hR.n0 ?_
    refine aw_topE hkk ?_
    refine aw_lload_n dX2_hold_18 3 rfl ?_
    refine aw_callSl [.int (nI w), .int (nI k), .long v] [.int (nI k), .int (nI p), .ref a] (sp_X0_widened (d := d - 1) (by omega) w k (hw c) c v h6) dX2_hold_19 ml_X2_46 sm_X0_widened rfl (dl1 (d := d) (by omega)) rfl rfl (Nat.le_of_ble_eq_true rfl) rfl rfl (Nat.zero_le _) (Nat.zero_le _) ?_
    refine aw_callVv [.int (nI p), .int (nI k), .long (wid w k v)] [] (sp_X2_fill (d := d - 1) (by omega) p (nI k) (wid w k v) hR (by omega)) dX2_hold_22 ml_X2_36 im_X2_fill hR.1 hR.n0 rfl rfl (dl1 (d := d) (by omega)) rfl rfl (Nat.le_of_ble_eq_true rfl) rfl rfl (Nat.zero_le _) (Nat.zero_le _) ?_
    refine aw_goto 35 dX2_hold_25 (by decide) ?_
    refine aw_ret dX2_hold_35 rfl (Nat.zero_le _) (Nat.zero_le _) ?_
    exact ⟨rfl, rfl⟩
  · rw [if_neg c, if_neg c]
    refine aw_aload_n dX2_hold_0 0 rfl ?_
    refine aw_callVi [] [] (sp_X2_isPrimitive (d := d - 1) (by omega) hR) dX2_hold_1 ml_X2_32 im_X2_isPrimitive hR.1 hR.n0 rfl rfl (dl1 (d := d) (by omega)) rfl rfl (Nat.le_of_ble_eq_true rfl) rfl rfl (Nat.zero_le _) (Nat.zero_le _) ?_
    refine aw_if_eq 28 dX2_hold_4 (by decide) (fun c1 => ?_) (fun c1 => absurd (by rw [hpk, decide_eq_false c]; rfl) c1)
    refine aw_aload_n dX2_hold_28 0 rfl ?_
    refine aw_iload_n dX2_hold_29 1 rfl ?_
    refine aw_iload_n dX2_hold_30 2 rfl ?_
    refine aw_lload_n dX2_hold_31 3 rfl ?_
    refine aw_callVv [.int (nI p), .int (nI w), .long v] [] (sp_X2_fill (d := d - 1) (by omega) p (nI w) v hR (by omega)) dX2_hold_32 ml_X2_36 im_X2_fill hR.1 hR.n0 rfl rfl (dl1 (d := d) (by omega)) rfl rfl (Nat.le_of_ble_eq_true rfl) rfl rfl (Nat.zero_le _) (Nat.zero_le _) ?_
    refine aw_ret dX2_hold_35 rfl (Nat.zero_le _) (Nat.zero_le _) ?_
    exact ⟨rfl, rfl⟩
noncomputable def tkR (M : xM) (k w : Nat) (v : Int64) : xM := tkM M (nI (if tkB (kd4 M v) k w v = true then hwt k w else w)) (if tkB (kd4 M v) k w v = true then hvl k w v else v)
theorem sT_tkR (M : xM) (k w : Nat) (v : Int64) : sT M (tkR M k w v) := sT_tkM _ _ _
theorem sp_X6_takes {d : Nat} (hd : 3 ≤ d) {M : xM} (k w : Nat) (v : Int64) (hT : TR M) (hk : k < 14) (hw : w < 12) (h13 : k = 13 → w = 10 → vp_in v.toInt32 24) (h6 : w = 6 → okF 6 v) : Sp (fX6_takes d) [.ref 0, .int (nI k), .int (nI w), .long v] M (dt (some (.int (bz (tkB (kd4 M v) k w v)))) (tkR M k w v)) := by
  refine Sp.of pn_X6 (Nat.le_of_ble_eq_true rfl) (fun h => Bool.noConfusion h) ?_
  refine aw_aload_n dX6_takes_0 0 rfl ?_
  refine aw_iload_n dX6_takes_1 2 rfl ?_
  refine aw_putI dX6_takes_2 fl_X6_121 (Or.inl rfl) (hT.s 0 (by decide)) (hT.n 0 (by decide)) ?_
  refine aw_aload_n dX6_takes_5 0 rfl ?_
  refine aw_lload_n dX6_takes_6 3 rfl ?_
  refine aw_putL dX6_takes_7 fl_X6_124 (Or.inl rfl) (hT.s 0 (by decide)) (hT.n 0 (by decide)) ?_
  refine aw_iload_n dX6_takes_10 1 rfl ?_
  refine aw_bipush (v := 8) dX6_takes_11 (by decide) ?_
  refine aw_icmp_geN k 8 49 dX6_takes_13 (by decide) rfl rfl (by omega) (by omega) (fun c1 => ?_) (fun c1 => ?_)
  · refine aw_iload_n dX6_takes_49 2 rfl ?_
    refine aw_bipush (v := 11) dX6_takes_50 (by decide) ?_
    refine aw_icmp_eqN w 11 61 dX6_takes_52 (by decide) rfl rfl (by omega) (by omega) (fun c2 => ?_) (fun c2 => ?_)
    · refine aw_iconst (v := 1) dX6_takes_61 (by decide) ?_
      refine aw_zret dX6_takes_62 rfl rfl (Nat.zero_le _) (Nat.zero_le _) ?_
      have hb : tkB (kd4 M v) k w v = true := by
        unfold tkB
        rw [if_neg (by omega : ¬ k < 8)]
        rw [if_pos (Or.inl (by omega))]
      unfold tkR
      rw [hb]
      exact ⟨rfl, (by rw [if_pos rfl, if_pos rfl]; unfold hwt hvl; rw [if_neg (by omega : ¬ k < 8), if_neg (by omega : ¬ k < 8)]; rfl)⟩
    · refine aw_iload_n dX6_takes_55 1 rfl ?_
      refine aw_bipush (v := 12) dX6_takes_56 (by decide) ?_
      refine aw_icmp_neN k 12 63 dX6_takes_58 (by decide) rfl rfl (by omega) (by omega) (fun c3 => ?_) (fun c3 => ?_)
      · refine aw_iload_n dX6_takes_63 1 rfl ?_
        refine aw_bipush (v := 8) dX6_takes_64 (by decide) ?_
        refine aw_icmp_neN k 8 80 dX6_takes_66 (by decide) rfl rfl (by omega) (by omega) (fun c4 => ?_) (fun c4 => ?_)
        · refine aw_iload_n dX6_takes_80 1 rfl ?_
          refine aw_bipush (v := 9) dX6_takes_81 (by decide) ?_
          refine aw_icmp_neN k 9 98 dX6_takes_83 (by decide) rfl rfl (by omega) (by omega) (fun c5 => ?_) (fun c5 => ?_)
          · refine aw_iload_n dX6_takes_98 1 rfl ?_
            refine aw_bipush (v := 10) dX6_takes_99 (by decide) ?_
            refine aw_icmp_neN k 10 116 dX6_takes_101 (by decide) rfl rfl (by omega) (by omega) (fun c6 => ?_) (fun c6 => ?_)
            · refine aw_iload_n dX6_takes_116 1 rfl ?_
              refine aw_bipush (v := 11) dX6_takes_117 (by decide) ?_
              refine aw_icmp_neN k 11 142 dX6_takes_119 (by decide) rfl rfl (by omega) (by omega) (fun c7 => ?_) (fun c7 => ?_)
              · refine aw_iload_n dX6_takes_142 2 rfl ?_
                refine aw_bipush (v := 10) dX6_takes_143 (by decide) ?_
                refine aw_icmp_neN w 10 163 dX6_takes_145 (by decide) rfl rfl (by omega) (by omega) (fun c8 => ?_) (fun c8 => ?_)
                · refine aw_iconst (v := 0) dX6_takes_163 (by decide) ?_
                  refine aw_zret dX6_takes_164 rfl rfl (Nat.zero_le _) (Nat.zero_le _) ?_
                  have hb : tkB (kd4 M v) k w v = false := by
                    unfold tkB
                    rw [if_neg (by omega : ¬ k < 8)]
                    rw [if_neg (by omega : ¬ (w = 11 ∨ k = 12))]
                    rw [if_neg (by omega : ¬ k = 8)]
                    rw [if_neg (by omega : ¬ k = 9)]
                    rw [if_neg (by omega : ¬ k = 10)]
                    rw [if_neg (by omega : ¬ k = 11)]
                    rw [decide_eq_false (by omega : ¬ w = 10)]; rfl
                  unfold tkR
                  rw [hb]
                  exact ⟨rfl, rfl⟩
                · refine aw_aload_n dX6_takes_148 0 rfl ?_
                  refine aw_getR (b := 1) dX6_takes_149 fl_X6_7 rfl (hT.s 0 (by decide)) (hT.n 0 (by decide)) (hT.r 0) ?_
                  refine aw_lload_n dX6_takes_152 3 rfl ?_
                  refine aw_l2i dX6_takes_153 ?_
                  refine aw_iald dX6_takes_154 (hT.s 1 (by decide)) (hT.n 1 (by decide)) (h13 (by omega) (by omega)) ?_
                  refine aw_iconst (v := 4) dX6_takes_155 (by decide) ?_
                  refine aw_icmp_ne 163 dX6_takes_156 (by decide) (fun c9 => ?_) (fun c9 => ?_)
                  · refine aw_iconst (v := 0) dX6_takes_163 (by decide) ?_
                    refine aw_zret dX6_takes_164 rfl rfl (Nat.zero_le _) (Nat.zero_le _) ?_
                    have hb : tkB (kd4 M v) k w v = false := by
                      unfold tkB
                      rw [if_neg (by omega : ¬ k < 8)]
                      rw [if_neg (by omega : ¬ (w = 11 ∨ k = 12))]
                      rw [if_neg (by omega : ¬ k = 8)]
                      rw [if_neg (by omega : ¬ k = 9)]
                      rw [if_neg (by omega : ¬ k = 10)]
                      rw [if_neg (by omega : ¬ k = 11)]
                      rw [decide_eq_true (by omega : w = 10)]; exact decide_eq_false c9
                    unfold tkR
                    rw [hb]
                    exact ⟨rfl, rfl⟩
                  · refine aw_iconst (v := 1) dX6_takes_159 (by decide) ?_
                    refine aw_goto 164 dX6_takes_160 (by decide) ?_
                    refine aw_zret dX6_takes_164 rfl rfl (Nat.zero_le _) (Nat.zero_le _) ?_
                    have hb : tkB (kd4 M v) k w v = true := by
                      unfold tkB
                      rw [if_neg (by omega : ¬ k < 8)]
                      rw [if_neg (by omega : ¬ (w = 11 ∨ k = 12))]
                      rw [if_neg (by omega : ¬ k = 8)]
                      rw [if_neg (by omega : ¬ k = 9)]
                      rw [if_neg (by omega : ¬ k = 10)]
                      rw [if_neg (by omega : ¬ k = 11)]
                      rw [decide_eq_true (by omega : w = 10)]; exact decide_eq_true c9
                    unfold tkR
                    rw [hb]
                    exact ⟨rfl, (by rw [if_pos rfl, if_pos rfl]; unfold hwt hvl; rw [if_neg (by omega : ¬ k < 8), if_neg (by omega : ¬ k < 8)]; rfl)⟩
              · refine aw_iload_n dX6_takes_122 2 rfl ?_
                refine aw_bipush (v := 9) dX6_takes_123 (by decide) ?_
                refine aw_icmp_neN w 9 140 dX6_takes_125 (by decide) rfl rfl (by omega) (by omega) (fun c10 => ?_) (fun c10 => ?_)
                · refine aw_iconst (v := 0) dX6_takes_140 (by decide) ?_
                  refine aw_zret dX6_takes_141 rfl rfl (Nat.zero_le _) (Nat.zero_le _) ?_
                  have hb : tkB (kd4 M v) k w v = false := by
                    unfold tkB
                    rw [if_neg (by omega : ¬ k < 8)]
                    rw [if_neg (by omega : ¬ (w = 11 ∨ k = 12))]
                    rw [if_neg (by omega : ¬ k = 8)]
                    rw [if_neg (by omega : ¬ k = 9)]
                    rw [if_neg (by omega : ¬ k = 10)]
                    rw [if_pos (by omega : k = 11)]
                    rw [decide_eq_false (by omega : ¬ w = 9)]; rfl
                  unfold tkR
                  rw [hb]
                  exact ⟨rfl, rfl⟩
                · refine aw_lload_n dX6_takes_128 3 rfl ?_
                  refine aw_ldc2 dX6_takes_129 kc_X6_136 ?_
                  refine aw_llt 140 dX6_takes_132 dX6_takes_133 (by decide) (fun c11 => ?_) (fun c11 => ?_)
                  · refine aw_iconst (v := 0) dX6_takes_140 (by decide) ?_
                    refine aw_zret dX6_takes_141 rfl rfl (Nat.zero_le _) (Nat.zero_le _) ?_
                    have hb : tkB (kd4 M v) k w v = false := by
                      unfold tkB
                      rw [if_neg (by omega : ¬ k < 8)]
                      rw [if_neg (by omega : ¬ (w = 11 ∨ k = 12))]
                      rw [if_neg (by omega : ¬ k = 8)]
                      rw [if_neg (by omega : ¬ k = 9)]
                      rw [if_neg (by omega : ¬ k = 10)]
                      rw [if_pos (by omega : k = 11)]
                      rw [decide_eq_false (Int64.not_le.mpr c11), Bool.and_false]
                    unfold tkR
                    rw [hb]
                    exact ⟨rfl, rfl⟩
                  · refine aw_iconst (v := 1) dX6_takes_136 (by decide) ?_
                    refine aw_goto 141 dX6_takes_137 (by decide) ?_
                    refine aw_zret dX6_takes_141 rfl rfl (Nat.zero_le _) (Nat.zero_le _) ?_
                    have hb : tkB (kd4 M v) k w v = true := by
                      unfold tkB
                      rw [if_neg (by omega : ¬ k < 8)]
                      rw [if_neg (by omega : ¬ (w = 11 ∨ k = 12))]
                      rw [if_neg (by omega : ¬ k = 8)]
                      rw [if_neg (by omega : ¬ k = 9)]
                      rw [if_neg (by omega : ¬ k = 10)]
                      rw [if_pos (by omega : k = 11)]
                      rw [decide_eq_true (by omega : w = 9), decide_eq_true (Int64.not_lt.mp c11)]; rfl
                    unfold tkR
                    rw [hb]
                    exact ⟨rfl, (by rw [if_pos rfl, if_pos rfl]; unfold hwt hvl; rw [if_neg (by omega : ¬ k < 8), if_neg (by omega : ¬ k < 8)]; rfl)⟩
            · refine aw_iload_n dX6_takes_104 2 rfl ?_
              refine aw_bipush (v := 9) dX6_takes_105 (by decide) ?_
              refine aw_icmp_neN w 9 114 dX6_takes_107 (by decide) rfl rfl (by omega) (by omega) (fun c12 => ?_) (fun c12 => ?_)
              · refine aw_iconst (v := 0) dX6_takes_114 (by decide) ?_
                refine aw_zret dX6_takes_115 rfl rfl (Nat.zero_le _) (Nat.zero_le _) ?_
                have hb : tkB (kd4 M v) k w v = false := by
                  unfold tkB
                  rw [if_neg (by omega : ¬ k < 8)]
                  rw [if_neg (by omega : ¬ (w = 11 ∨ k = 12))]
                  rw [if_neg (by omega : ¬ k = 8)]
                  rw [if_neg (by omega : ¬ k = 9)]
                  rw [if_pos (by omega : k = 10)]
                  exact decide_eq_false (by omega)
                unfold tkR
                rw [hb]
                exact ⟨rfl, rfl⟩
              · refine aw_iconst (v := 1) dX6_takes_110 (by decide) ?_
                refine aw_goto 115 dX6_takes_111 (by decide) ?_
                refine aw_zret dX6_takes_115 rfl rfl (Nat.zero_le _) (Nat.zero_le _) ?_
                have hb : tkB (kd4 M v) k w v = true := by
                  unfold tkB
                  rw [if_neg (by omega : ¬ k < 8)]
                  rw [if_neg (by omega : ¬ (w = 11 ∨ k = 12))]
                  rw [if_neg (by omega : ¬ k = 8)]
                  rw [if_neg (by omega : ¬ k = 9)]
                  rw [if_pos (by omega : k = 10)]
                  exact decide_eq_true (by omega)
                unfold tkR
                rw [hb]
                exact ⟨rfl, (by rw [if_pos rfl, if_pos rfl]; unfold hwt hvl; rw [if_neg (by omega : ¬ k < 8), if_neg (by omega : ¬ k < 8)]; rfl)⟩
          · refine aw_iload_n dX6_takes_86 2 rfl ?_
            refine aw_bipush (v := 8) dX6_takes_87 (by decide) ?_
            refine aw_icmp_neN w 8 96 dX6_takes_89 (by decide) rfl rfl (by omega) (by omega) (fun c13 => ?_) (fun c13 => ?_)
            · refine aw_iconst (v := 0) dX6_takes_96 (by decide) ?_
              refine aw_zret dX6_takes_97 rfl rfl (Nat.zero_le _) (Nat.zero_le _) ?_
              have hb : tkB (kd4 M v) k w v = false := by
                unfold tkB
                rw [if_neg (by omega : ¬ k < 8)]
                rw [if_neg (by omega : ¬ (w = 11 ∨ k = 12))]
                rw [if_neg (by omega : ¬ k = 8)]
                rw [if_pos (by omega : k = 9)]
                exact decide_eq_false (by omega)
              unfold tkR
              rw [hb]
              exact ⟨rfl, rfl⟩
            · refine aw_iconst (v := 1) dX6_takes_92 (by decide) ?_
              refine aw_goto 97 dX6_takes_93 (by decide) ?_
              refine aw_zret dX6_takes_97 rfl rfl (Nat.zero_le _) (Nat.zero_le _) ?_
              have hb : tkB (kd4 M v) k w v = true := by
                unfold tkB
                rw [if_neg (by omega : ¬ k < 8)]
                rw [if_neg (by omega : ¬ (w = 11 ∨ k = 12))]
                rw [if_neg (by omega : ¬ k = 8)]
                rw [if_pos (by omega : k = 9)]
                exact decide_eq_true (by omega)
              unfold tkR
              rw [hb]
              exact ⟨rfl, (by rw [if_pos rfl, if_pos rfl]; unfold hwt hvl; rw [if_neg (by omega : ¬ k < 8), if_neg (by omega : ¬ k < 8)]; rfl)⟩
        · refine aw_iload_n dX6_takes_69 2 rfl ?_
          refine aw_iconst (v := 4) dX6_takes_70 (by decide) ?_
          refine aw_icmp_neN w 4 78 dX6_takes_71 (by decide) rfl rfl (by omega) (by omega) (fun c14 => ?_) (fun c14 => ?_)
          · refine aw_iconst (v := 0) dX6_takes_78 (by decide) ?_
            refine aw_zret dX6_takes_79 rfl rfl (Nat.zero_le _) (Nat.zero_le _) ?_
            have hb : tkB (kd4 M v) k w v = false := by
              unfold tkB
              rw [if_neg (by omega : ¬ k < 8)]
              rw [if_neg (by omega : ¬ (w = 11 ∨ k = 12))]
              rw [if_pos (by omega : k = 8)]
              exact decide_eq_false (by omega)
            unfold tkR
            rw [hb]
            exact ⟨rfl, rfl⟩
          · refine aw_iconst (v := 1) dX6_takes_74 (by decide) ?_
            refine aw_goto 79 dX6_takes_75 (by decide) ?_
            refine aw_zret dX6_takes_79 rfl rfl (Nat.zero_le _) (Nat.zero_le _) ?_
            have hb : tkB (kd4 M v) k w v = true := by
              unfold tkB
              rw [if_neg (by omega : ¬ k < 8)]
              rw [if_neg (by omega : ¬ (w = 11 ∨ k = 12))]
              rw [if_pos (by omega : k = 8)]
              exact decide_eq_true (by omega)
            unfold tkR
            rw [hb]
            exact ⟨rfl, (by rw [if_pos rfl, if_pos rfl]; unfold hwt hvl; rw [if_neg (by omega : ¬ k < 8), if_neg (by omega : ¬ k < 8)]; rfl)⟩
      · refine aw_iconst (v := 1) dX6_takes_61 (by decide) ?_
        refine aw_zret dX6_takes_62 rfl rfl (Nat.zero_le _) (Nat.zero_le _) ?_
        have hb : tkB (kd4 M v) k w v = true := by
          unfold tkB
          rw [if_neg (by omega : ¬ k < 8)]
          rw [if_pos (Or.inr (by omega))]
        unfold tkR
        rw [hb]
        exact ⟨rfl, (by rw [if_pos rfl, if_pos rfl]; unfold hwt hvl; rw [if_neg (by omega : ¬ k < 8), if_neg (by omega : ¬ k < 8)]; rfl)⟩
  · refine aw_iload_n dX6_takes_16 2 rfl ?_
    refine aw_bipush (v := 7) dX6_takes_17 (by decide) ?_
    refine aw_icmp_gtN w 7 30 dX6_takes_19 (by decide) rfl rfl (by omega) (by omega) (fun c15 => ?_) (fun c15 => ?_)
    · refine aw_iconst (v := 0) dX6_takes_30 (by decide) ?_
      refine aw_zret dX6_takes_31 rfl rfl (Nat.zero_le _) (Nat.zero_le _) ?_
      have hb : tkB (kd4 M v) k w v = false := by
        unfold tkB
        rw [if_pos (by omega : k < 8)]
        rw [decide_eq_false (by omega : ¬ w < 8)]; rfl
      unfold tkR
      rw [hb]
      exact ⟨rfl, rfl⟩
    · refine aw_iload_n dX6_takes_22 2 rfl ?_
      refine aw_iload_n dX6_takes_23 1 rfl ?_
      refine aw_callSi [.int (nI w), .int (nI k)] [] (sp_X6_turns (d := d - 1) (by omega) (nI w) (nI k)) dX6_takes_24 ml_X6_128 sm_X6_turns rfl (dl1 (d := d) (by omega)) rfl rfl (Nat.le_of_ble_eq_true rfl) rfl rfl (Nat.zero_le _) (Nat.zero_le _) ?_
      refine aw_if_ne 32 dX6_takes_27 (by decide) (fun c16 => ?_) (fun c16 => ?_)
      · refine aw_aload_n dX6_takes_32 0 rfl ?_
        refine aw_iload_n dX6_takes_33 1 rfl ?_
        refine aw_putI dX6_takes_34 fl_X6_121 (Or.inl rfl) (hT.s 0 (by decide)) (hT.n 0 (by decide)) ?_
        refine aw_aload_n dX6_takes_37 0 rfl ?_
        refine aw_iload_n dX6_takes_38 2 rfl ?_
        refine aw_lload_n dX6_takes_39 3 rfl ?_
        refine aw_iload_n dX6_takes_40 1 rfl ?_
        refine aw_callSl [.int (nI w), .long v, .int (nI k)] [.ref 0] (sp_X6_turned (d := d - 1) (by omega) w k (by omega) (by omega) v h6) dX6_takes_41 ml_X6_132 sm_X6_turned rfl (dl1 (d := d) (by omega)) rfl rfl (Nat.le_of_ble_eq_true rfl) rfl rfl (Nat.zero_le _) (Nat.zero_le _) ?_
        refine aw_putL dX6_takes_44 fl_X6_124 (Or.inl rfl) (hT.s 0 (by decide)) (hT.n 0 (by decide)) ?_
        refine aw_iconst (v := 1) dX6_takes_47 (by decide) ?_
        refine aw_zret dX6_takes_48 rfl rfl (Nat.zero_le _) (Nat.zero_le _) ?_
        have hb : tkB (kd4 M v) k w v = true := by
          unfold tkB
          rw [if_pos (by omega : k < 8)]
          rw [decide_eq_true (by omega : w < 8), bz_n0.mp c16]; rfl
        unfold tkR
        rw [hb]
        exact ⟨rfl, (tkM_tk M _ _ _ _).trans (by rw [if_pos rfl, if_pos rfl]; unfold hwt hvl; rw [if_pos (by omega : k < 8), if_pos (by omega : k < 8)])⟩
      · refine aw_iconst (v := 0) dX6_takes_30 (by decide) ?_
        refine aw_zret dX6_takes_31 rfl rfl (Nat.zero_le _) (Nat.zero_le _) ?_
        have hb : tkB (kd4 M v) k w v = false := by
          unfold tkB
          rw [if_pos (by omega : k < 8)]
          rw [bz_0.mp c16, Bool.and_false]
        unfold tkR
        rw [hb]
        exact ⟨rfl, rfl⟩
