-- THE REFERENCE WRITES NUMBERS
theorem drem_2 {s : Bool} {c b p : Nat} {q : Int} (h : nrm c q) (hc : c = (2 * b + 1) * 2 ^ p) (hj : 0 ≤ q + p) : ∃ c' q', FP.Core.val64 (FP.drem (nd s c q) 4611686018427387904) = .fin s c' q' ∧ (c' = 0 ↔ 0 < q + p) := by
  have hy : FP.Core.fits FP.Core.b64 (.fin false (2 ^ 52) (1 - 52)) := nrm.fits (c := 2 ^ 52) (r := 1 - 52) ⟨Nat.le_refl _, by decide, by decide, by decide⟩ false
  obtain ⟨c', q', h1, h2⟩ := FP.Core.remainder_exact FP.Core.good_b64 (h.fits s) hy (Nat.ne_of_gt (Nat.two_pow_pos 52))
  refine ⟨c', q', ?_, ?_⟩
  · show FP.Core.val64 (FP.Core.drem (nd s c q) 4611686018427387904) = _
    rw [FP.Core.val64_drem, h.val, k2]
    exact h1
  · obtain ⟨n1, n2, n3, n4⟩ := h
    rw [q64.1] at h2
    unfold FP.Core.inUnits at h2
    obtain ⟨j, hj2⟩ : ∃ j : Nat, q + p = j := ⟨(q + p).toNat, by omega⟩
    rw [hc, Nat.mul_assoc, ← Nat.pow_add, ← Nat.pow_add, show p + (q - (-1074)).toNat = j + 1074 by omega, show 52 + ((1 : Int) - 52 - (-1074)).toNat = 1 + 1074 by omega, Nat.pow_add, Nat.pow_add, ← Nat.mul_assoc, Nat.mul_mod_mul_right] at h2
    have hp1 : 0 < 2 ^ (q' - (-1074)).toNat := Nat.two_pow_pos _
    have hp2 : 0 < 2 ^ 1074 := Nat.two_pow_pos _
    generalize 2 ^ (q' - (-1074)).toNat = A at h2 hp1
    generalize 2 ^ 1074 = B at h2 hp2
    rw [hj2]
    cases j with
    | zero =>
      rw [Nat.pow_zero, Nat.mul_one, show (2 * b + 1) % 2 ^ 1 = 1 by omega, Nat.one_mul] at h2
      constructor
      · intro e
        rw [e, Nat.zero_mul] at h2
        omega
      · intro e
        exact absurd e (by omega)
    | succ j =>
      rw [Nat.pow_succ, ← Nat.mul_assoc, show ((2 * b + 1) * 2 ^ j * 2) % 2 ^ 1 = 0 by rw [Nat.pow_one]; exact Nat.mul_mod_left _ _, Nat.zero_mul] at h2
      constructor
      · intro _
        omega
      · intro _
        rcases Nat.mul_eq_zero.mp h2 with e | e
        · exact e
        · omega
theorem cz_0 {x : UInt64} {s : Bool} {r : Int} {op : CmpOp} (hx : FP.Core.val64 x = .fin s 0 r) : Op.cmpValue (FP.dcmp x FP.dconst0) op = 0 := by
  rw [dcmp_v hx k0]
  apply cv_eq.mpr
  rw [Nat.zero_mul, Nat.zero_mul]
  cases s <;> rfl
theorem bt8_0 (v : Int64) : Int64.toInt32 (v &&& 255) = bt8 v 0 := by
  unfold bt8
  rw [Int64.toInt32_and, show (Int32.toInt64 (nI (8 * 0))) &&& 63 = (0 : Int64) from rfl, Int64.shiftRight_zero]
  rfl
theorem sp_lnI {d : Nat} (hd : 2 ≤ d) {M : xM} {l : List Int32} (k : Nat) (v : Int64) (hT : TR M) (hk : k < 6) (hl : l.length + 9 ≤ 1500) : Sp (fX6_laysNumber d) [.ref 0, .int (nI k), .long v] (emM M 0 13 8 l) (dt none (emM M 0 13 8 (l ++ nuC k v))) := by
  refine Sp.of pn_X6 (Nat.le_of_ble_eq_true rfl) (fun h => Bool.noConfusion h) ?_
  rw [show nuC k v = byB v (wdK k) from if_pos hk]
  have hcs : k < 2 ∨ (2 ≤ k ∧ k < 4) ∨ k = 4 ∨ k = 5 := by omega
  rcases hcs with h | h | h | h
  · rw [show wdK k = 1 from if_pos h]
    refine aw_iload_n dX6_laysNumber_0 1 rfl ?_
    refine aw_iconst (v := 2) dX6_laysNumber_1 (by decide) ?_
    refine aw_icmp_geN k 2 18 dX6_laysNumber_2 (by decide) rfl rfl (by omega) (by omega) (fun c1 => absurd c1 (by omega)) (fun c1 => ?_)
    refine aw_aload_n dX6_laysNumber_5 0 rfl ?_
    refine aw_lload_n dX6_laysNumber_6 2 rfl ?_
    refine aw_ldc2 dX6_laysNumber_7 kc_X6_238 ?_
    refine aw_land dX6_laysNumber_10 ?_
    refine aw_l2i dX6_laysNumber_11 ?_
    refine aw_callVv [.int (Int64.toInt32 (v &&& 255))] [] (show Sp (fX6_lays (d - 1)) [.ref 0, .int (Int64.toInt32 (v &&& 255))] (emM M 0 13 8 l) (dt none (emM M 0 13 8 (l ++ [bt8 v 0]))) by rw [show Int64.toInt32 (v &&& 255) = bt8 v 0 from bt8_0 v]; exact sp_ls (by omega) (l := l) _ hT (by omega)) dX6_laysNumber_12 ml_X6_240 im_X6_lays (((sT_emM M 0 13 8 l).TR hT).s 0 (by decide)) (((sT_emM M 0 13 8 l).TR hT).n 0 (by decide)) rfl rfl (dl1 (d := d) (by omega)) rfl rfl (Nat.le_of_ble_eq_true rfl) rfl rfl (Nat.zero_le _) (Nat.zero_le _) ?_
    refine aw_goto 128 dX6_laysNumber_15 (by decide) ?_
    refine aw_ret dX6_laysNumber_128 rfl (Nat.zero_le _) (Nat.zero_le _) ?_
    exact ⟨rfl, rfl⟩
  · rw [show wdK k = 2 from (if_neg (by omega)).trans (if_pos h.2)]
    refine aw_iload_n dX6_laysNumber_0 1 rfl ?_
    refine aw_iconst (v := 2) dX6_laysNumber_1 (by decide) ?_
    refine aw_icmp_geN k 2 18 dX6_laysNumber_2 (by decide) rfl rfl (by omega) (by omega) (fun c1 => ?_) (fun c1 => absurd (by omega) c1)
    refine aw_iload_n dX6_laysNumber_18 1 rfl ?_
    refine aw_iconst (v := 4) dX6_laysNumber_19 (by decide) ?_
    refine aw_icmp_geN k 4 32 dX6_laysNumber_20 (by decide) rfl rfl (by omega) (by omega) (fun c2 => absurd c2 (by omega)) (fun c2 => ?_)
    refine aw_aload_n dX6_laysNumber_23 0 rfl ?_
    refine aw_lload_n dX6_laysNumber_24 2 rfl ?_
    refine aw_iconst (v := 2) dX6_laysNumber_25 (by decide) ?_
    refine aw_callVv [.long v, .int 2] [] (sp_lw (d := d - 1) (by omega) (l := l) v 2 hT (by decide) (by omega)) dX6_laysNumber_26 ml_X6_244 im_X6_laysWhole (((sT_emM M 0 13 8 l).TR hT).s 0 (by decide)) (((sT_emM M 0 13 8 l).TR hT).n 0 (by decide)) rfl rfl (dl1 (d := d) (by omega)) rfl rfl (Nat.le_of_ble_eq_true rfl) rfl rfl (Nat.zero_le _) (Nat.zero_le _) ?_
    refine aw_goto 128 dX6_laysNumber_29 (by decide) ?_
    refine aw_ret dX6_laysNumber_128 rfl (Nat.zero_le _) (Nat.zero_le _) ?_
    exact ⟨rfl, rfl⟩
  · rw [show wdK k = 4 from by rw [h]; rfl]
    refine aw_iload_n dX6_laysNumber_0 1 rfl ?_
    refine aw_iconst (v := 2) dX6_laysNumber_1 (by decide) ?_
    refine aw_icmp_geN k 2 18 dX6_laysNumber_2 (by decide) rfl rfl (by omega) (by omega) (fun c1 => ?_) (fun c1 => absurd (by omega) c1)
    refine aw_iload_n dX6_laysNumber_18 1 rfl ?_
    refine aw_iconst (v := 4) dX6_laysNumber_19 (by decide) ?_
    refine aw_icmp_geN k 4 32 dX6_laysNumber_20 (by decide) rfl rfl (by omega) (by omega) (fun c2 => ?_) (fun c2 => absurd (by omega) c2)
    refine aw_iload_n dX6_laysNumber_32 1 rfl ?_
    refine aw_bipush (v := 6) dX6_laysNumber_33 (by decide) ?_
    refine aw_icmp_geN k 6 57 dX6_laysNumber_35 (by decide) rfl rfl (by omega) (by omega) (fun c3 => absurd c3 (by omega)) (fun c3 => ?_)
    refine aw_aload_n dX6_laysNumber_38 0 rfl ?_
    refine aw_lload_n dX6_laysNumber_39 2 rfl ?_
    refine aw_iload_n dX6_laysNumber_40 1 rfl ?_
    refine aw_iconst (v := 4) dX6_laysNumber_41 (by decide) ?_
    refine aw_icmp_neN k 4 49 dX6_laysNumber_42 (by decide) rfl rfl (by omega) (by omega) (fun c4 => absurd h c4) (fun c4 => ?_)
    refine aw_iconst (v := 4) dX6_laysNumber_45 (by decide) ?_
    refine aw_goto 51 dX6_laysNumber_46 (by decide) ?_
    refine aw_callVv [.long v, .int 4] [] (sp_lw (d := d - 1) (by omega) (l := l) v 4 hT (by decide) (by omega)) dX6_laysNumber_51 ml_X6_244 im_X6_laysWhole (((sT_emM M 0 13 8 l).TR hT).s 0 (by decide)) (((sT_emM M 0 13 8 l).TR hT).n 0 (by decide)) rfl rfl (dl1 (d := d) (by omega)) rfl rfl (Nat.le_of_ble_eq_true rfl) rfl rfl (Nat.zero_le _) (Nat.zero_le _) ?_
    refine aw_goto 128 dX6_laysNumber_54 (by decide) ?_
    refine aw_ret dX6_laysNumber_128 rfl (Nat.zero_le _) (Nat.zero_le _) ?_
    exact ⟨rfl, rfl⟩
  · rw [show wdK k = 8 from by rw [h]; rfl]
    refine aw_iload_n dX6_laysNumber_0 1 rfl ?_
    refine aw_iconst (v := 2) dX6_laysNumber_1 (by decide) ?_
    refine aw_icmp_geN k 2 18 dX6_laysNumber_2 (by decide) rfl rfl (by omega) (by omega) (fun c1 => ?_) (fun c1 => absurd (by omega) c1)
    refine aw_iload_n dX6_laysNumber_18 1 rfl ?_
    refine aw_iconst (v := 4) dX6_laysNumber_19 (by decide) ?_
    refine aw_icmp_geN k 4 32 dX6_laysNumber_20 (by decide) rfl rfl (by omega) (by omega) (fun c2 => ?_) (fun c2 => absurd (by omega) c2)
    refine aw_iload_n dX6_laysNumber_32 1 rfl ?_
    refine aw_bipush (v := 6) dX6_laysNumber_33 (by decide) ?_
    refine aw_icmp_geN k 6 57 dX6_laysNumber_35 (by decide) rfl rfl (by omega) (by omega) (fun c3 => absurd c3 (by omega)) (fun c3 => ?_)
    refine aw_aload_n dX6_laysNumber_38 0 rfl ?_
    refine aw_lload_n dX6_laysNumber_39 2 rfl ?_
    refine aw_iload_n dX6_laysNumber_40 1 rfl ?_
    refine aw_iconst (v := 4) dX6_laysNumber_41 (by decide) ?_
    refine aw_icmp_neN k 4 49 dX6_laysNumber_42 (by decide) rfl rfl (by omega) (by omega) (fun c4 => ?_) (fun c4 => absurd c4 (by omega))
    refine aw_bipush (v := 8) dX6_laysNumber_49 (by decide) ?_
    refine aw_callVv [.long v, .int 8] [] (sp_lw (d := d - 1) (by omega) (l := l) v 8 hT (by decide) (by omega)) dX6_laysNumber_51 ml_X6_244 im_X6_laysWhole (((sT_emM M 0 13 8 l).TR hT).s 0 (by decide)) (((sT_emM M 0 13 8 l).TR hT).n 0 (by decide)) rfl rfl (dl1 (d := d) (by omega)) rfl rfl (Nat.le_of_ble_eq_true rfl) rfl rfl (Nat.zero_le _) (Nat.zero_le _) ?_
    refine aw_goto 128 dX6_laysNumber_54 (by decide) ?_
    refine aw_ret dX6_laysNumber_128 rfl (Nat.zero_le _) (Nat.zero_le _) ?_
    exact ⟨rfl, rfl⟩
theorem lp_ln {d : Nat} {M : xM} (k : Nat) (v : Int64) (s : Bool) (c b p : Nat) {r : Int} (h : nrm c r) (hc : c = (2 * b + 1) * 2 ^ p) (hp : p ≤ 52) {post : Option Value → xM → Prop} : ∀ (j e : Nat) (q : Int), q + p = j → e + j < 1000 → j ≤ 200 → AW (fX6_laysNumber d) 103 [(6, .int (nI (e + j))), (4, .double (nd s c (-(p : Int)))), (0, .ref 0), (1, .int (nI k)), (2, .long v)] [] M 0 0 post → AW (fX6_laysNumber d) 71 [(6, .int (nI e)), (4, .double (nd s c q)), (0, .ref 0), (1, .int (nI k)), (2, .long v)] [] M 0 0 post := by
  intro j
  induction j with
  | zero =>
    intro e q hq he hj hx
    obtain rfl : q = -(p : Int) := by omega
    have hn := nrmw (-(p : Int)) h (by omega) (by omega)
    obtain ⟨c', q', z1, z2⟩ := drem_2 (s := s) hn hc (by omega)
    have hc' : 0 < c' := Nat.pos_of_ne_zero (fun z => absurd (z2.mp z) (by omega))
    have hcp : 0 < c := Nat.lt_of_lt_of_le (Nat.two_pow_pos 52) h.1
    refine aw_dload dX6_laysNumber_71 1 rfl ?_
    refine aw_dconst0 dX6_laysNumber_73 ?_
    refine aw_dcmp dX6_laysNumber_74 ?_
    refine aw_if_eq 103 dX6_laysNumber_75 (by decide) (fun c1 => absurd c1 (c0_v hcp (hn.val s)).2) (fun c1 => ?_)
    refine aw_dload dX6_laysNumber_78 1 rfl ?_
    refine aw_ldc2d dX6_laysNumber_80 kc_X6_91 ?_
    refine aw_drem dX6_laysNumber_83 (n64_of z1) ?_
    refine aw_dconst0 dX6_laysNumber_84 ?_
    refine aw_dcmp dX6_laysNumber_85 ?_
    refine aw_if_ne 103 dX6_laysNumber_86 (by decide) (fun c2 => ?_) (fun c2 => absurd c2 (c0_v hc' z1).2)
    exact hx
  | succ j ih =>
    intro e q hq he hj hx
    have hn := nrmw q h (by omega) (by omega)
    obtain ⟨c', q', z1, z2⟩ := drem_2 (s := s) hn hc (by omega)
    obtain rfl : c' = 0 := z2.mpr (by omega)
    have hcp : 0 < c := Nat.lt_of_lt_of_le (Nat.two_pow_pos 52) h.1
    have g := ih (e + 1) (q - 1) (by omega) (by omega) (by omega) (by rw [show e + 1 + j = e + (j + 1) by omega]; exact hx)
    refine aw_dload dX6_laysNumber_71 1 rfl ?_
    refine aw_dconst0 dX6_laysNumber_73 ?_
    refine aw_dcmp dX6_laysNumber_74 ?_
    refine aw_if_eq 103 dX6_laysNumber_75 (by decide) (fun c1 => absurd c1 (c0_v hcp (hn.val s)).2) (fun c1 => ?_)
    refine aw_dload dX6_laysNumber_78 1 rfl ?_
    refine aw_ldc2d dX6_laysNumber_80 kc_X6_91 ?_
    refine aw_drem dX6_laysNumber_83 (n64_of z1) ?_
    refine aw_dconst0 dX6_laysNumber_84 ?_
    refine aw_dcmp dX6_laysNumber_85 ?_
    refine aw_if_ne 103 dX6_laysNumber_86 (by decide) (fun c2 => absurd (cz_0 z1) c2) (fun c2 => ?_)
    refine aw_dload dX6_laysNumber_89 1 rfl ?_
    refine aw_ldc2d dX6_laysNumber_91 kc_X6_91 ?_
    refine aw_ddiv dX6_laysNumber_94 (n64e (ddiv_p 1 hn (nrmw _ h (by omega) (by omega)) k2) ((nrmw _ h (by omega) (by omega)).n _)) ?_
    refine aw_topdE (ddiv_p 1 hn (nrmw _ h (by omega) (by omega)) k2) ?_
    refine aw_dstore [(4, .double (nd s c (q - 1))), (6, .int (nI e)), (0, .ref 0), (1, .int (nI k)), (2, .long v)] dX6_laysNumber_95 (Nat.le_of_ble_eq_true rfl) rfl ?_
    refine aw_iincN e 1 [(6, .int (nI (e + 1))), (4, .double (nd s c (q - 1))), (0, .ref 0), (1, .int (nI k)), (2, .long v)] dX6_laysNumber_97 1 rfl rfl rfl (Nat.le_of_ble_eq_true rfl) rfl ?_
    refine aw_goto 71 dX6_laysNumber_100 (by decide) ?_
    exact g
theorem sp_lnF {d : Nat} (hd : 2 ≤ d) {M : xM} {l : List Int32} (k : Nat) (v : Int64) (hT : TR M) (hk : k = 6 ∨ k = 7) (hv : okF k v) (hl : l.length + 9 ≤ 1500) : Sp (fX6_laysNumber d) [.ref 0, .int (nI k), .long v] (emM M 0 13 8 l) (dt none (emM M 0 13 8 (l ++ nuC k v))) := by
  refine Sp.of pn_X6 (Nat.le_of_ble_eq_true rfl) (fun h => Bool.noConfusion h) ?_
  obtain ⟨u, hu, -, rfl⟩ := hv
  have e0 : nuC k (fb k u) = [sX0_powerPart (nI k) (fb k u)] ++ byB (sX0_oddPart (nI k) (fb k u)) (wdK k) := if_neg (by omega)
  have fin : ∀ (e : Nat) (x : UInt64) (y : Int64), sX0_powerPart (nI k) (fb k u) = nI e → sX0_oddPart (nI k) (fb k u) = y → FP.d2l x = y → AW (fX6_laysNumber d) 103 [(6, .int (nI e)), (4, .double x), (0, .ref 0), (1, .int (nI k)), (2, .long (fb k u))] [] (emM M 0 13 8 l) 0 0 (dt none (emM M 0 13 8 (l ++ nuC k (fb k u)))) := by
    intro e x y h1 h2 h3
    rw [e0, h1, h2, ← List.append_assoc]
    rcases hk with rfl | rfl
    · rw [show wdK 6 = 4 from rfl]
      refine aw_aload_n dX6_laysNumber_103 2 rfl ?_
      refine aw_iload dX6_laysNumber_104 0 rfl ?_
      refine aw_callVv [.int (nI e)] [] (sp_ls (d := d - 1) (by omega) (l := l) (nI e) hT (by omega)) dX6_laysNumber_106 ml_X6_240 im_X6_lays (((sT_emM M 0 13 8 l).TR hT).s 0 (by decide)) (((sT_emM M 0 13 8 l).TR hT).n 0 (by decide)) rfl rfl (dl1 (d := d) (by omega)) rfl rfl (Nat.le_of_ble_eq_true rfl) rfl rfl (Nat.zero_le _) (Nat.zero_le _) ?_
      refine aw_aload_n dX6_laysNumber_109 2 rfl ?_
      refine aw_dload dX6_laysNumber_110 1 rfl ?_
      refine aw_d2l dX6_laysNumber_112 ?_
      refine aw_toplE h3 ?_
      refine aw_iload_n dX6_laysNumber_113 3 rfl ?_
      refine aw_bipush (v := 6) dX6_laysNumber_114 (by decide) ?_
      refine aw_icmp_neN 6 6 123 dX6_laysNumber_116 (by decide) rfl rfl (by omega) (by omega) (fun c1 => absurd rfl c1) (fun c1 => ?_)
      refine aw_iconst (v := 4) dX6_laysNumber_119 (by decide) ?_
      refine aw_goto 125 dX6_laysNumber_120 (by decide) ?_
      refine aw_callVv [.long y, .int 4] [] (sp_lw (d := d - 1) (by omega) (l := l ++ [nI e]) y 4 hT (by decide) (by first | omega | (simp only [List.length_append, List.length_cons, List.length_nil, byB_len] at *; omega))) dX6_laysNumber_125 ml_X6_244 im_X6_laysWhole (((sT_emM M 0 13 8 (l ++ [nI e])).TR hT).s 0 (by decide)) (((sT_emM M 0 13 8 (l ++ [nI e])).TR hT).n 0 (by decide)) rfl rfl (dl1 (d := d) (by omega)) rfl rfl (Nat.le_of_ble_eq_true rfl) rfl rfl (Nat.zero_le _) (Nat.zero_le _) ?_
      refine aw_ret dX6_laysNumber_128 rfl (Nat.zero_le _) (Nat.zero_le _) ?_
      exact ⟨rfl, rfl⟩
    · rw [show wdK 7 = 8 from rfl]
      refine aw_aload_n dX6_laysNumber_103 2 rfl ?_
      refine aw_iload dX6_laysNumber_104 0 rfl ?_
      refine aw_callVv [.int (nI e)] [] (sp_ls (d := d - 1) (by omega) (l := l) (nI e) hT (by omega)) dX6_laysNumber_106 ml_X6_240 im_X6_lays (((sT_emM M 0 13 8 l).TR hT).s 0 (by decide)) (((sT_emM M 0 13 8 l).TR hT).n 0 (by decide)) rfl rfl (dl1 (d := d) (by omega)) rfl rfl (Nat.le_of_ble_eq_true rfl) rfl rfl (Nat.zero_le _) (Nat.zero_le _) ?_
      refine aw_aload_n dX6_laysNumber_109 2 rfl ?_
      refine aw_dload dX6_laysNumber_110 1 rfl ?_
      refine aw_d2l dX6_laysNumber_112 ?_
      refine aw_toplE h3 ?_
      refine aw_iload_n dX6_laysNumber_113 3 rfl ?_
      refine aw_bipush (v := 6) dX6_laysNumber_114 (by decide) ?_
      refine aw_icmp_neN 7 6 123 dX6_laysNumber_116 (by decide) rfl rfl (by omega) (by omega) (fun c1 => ?_) (fun c1 => absurd c1 (by decide))
      refine aw_bipush (v := 8) dX6_laysNumber_123 (by decide) ?_
      refine aw_callVv [.long y, .int 8] [] (sp_lw (d := d - 1) (by omega) (l := l ++ [nI e]) y 8 hT (by decide) (by first | omega | (simp only [List.length_append, List.length_cons, List.length_nil, byB_len] at *; omega))) dX6_laysNumber_125 ml_X6_244 im_X6_laysWhole (((sT_emM M 0 13 8 (l ++ [nI e])).TR hT).s 0 (by decide)) (((sT_emM M 0 13 8 (l ++ [nI e])).TR hT).n 0 (by decide)) rfl rfl (dl1 (d := d) (by omega)) rfl rfl (Nat.le_of_ble_eq_true rfl) rfl rfl (Nat.zero_le _) (Nat.zero_le _) ?_
      refine aw_ret dX6_laysNumber_128 rfl (Nat.zero_le _) (Nat.zero_le _) ?_
      exact ⟨rfl, rfl⟩
  have mid : ∀ (x : UInt64), FP.dmul u 4620693217682128896 = x → vf_n64 x → AW (fX6_laysNumber d) 71 [(6, .int (nI 0)), (4, .double x), (0, .ref 0), (1, .int (nI k)), (2, .long (fb k u))] [] (emM M 0 13 8 l) 0 0 (dt none (emM M 0 13 8 (l ++ nuC k (fb k u)))) → AW (fX6_laysNumber d) 0 [(0, .ref 0), (1, .int (nI k)), (2, .long (fb k u))] [] (emM M 0 13 8 l) 0 0 (dt none (emM M 0 13 8 (l ++ nuC k (fb k u)))) := by
    intro x x1 x2 g
    clear fin e0
    refine aw_iload_n dX6_laysNumber_0 1 rfl ?_
    refine aw_iconst (v := 2) dX6_laysNumber_1 (by decide) ?_
    refine aw_icmp_geN k 2 18 dX6_laysNumber_2 (by decide) rfl rfl (by omega) (by omega) (fun c1 => ?_) (fun c1 => absurd (by omega) c1)
    refine aw_iload_n dX6_laysNumber_18 1 rfl ?_
    refine aw_iconst (v := 4) dX6_laysNumber_19 (by decide) ?_
    refine aw_icmp_geN k 4 32 dX6_laysNumber_20 (by decide) rfl rfl (by omega) (by omega) (fun c2 => ?_) (fun c2 => absurd (by omega) c2)
    refine aw_iload_n dX6_laysNumber_32 1 rfl ?_
    refine aw_bipush (v := 6) dX6_laysNumber_33 (by decide) ?_
    refine aw_icmp_geN k 6 57 dX6_laysNumber_35 (by decide) rfl rfl (by omega) (by omega) (fun c3 => ?_) (fun c3 => absurd (by omega) c3)
    refine aw_iload_n dX6_laysNumber_57 1 rfl ?_
    refine aw_lload_n dX6_laysNumber_58 2 rfl ?_
    refine aw_callSd [.int (nI k), .long (fb k u)] [] (sp_X6_value (d := d - 1) (by omega) k hk u hu) dX6_laysNumber_59 ml_X6_115 sm_X6_value rfl (dl1 (d := d) (by omega)) rfl rfl (Nat.le_of_ble_eq_true rfl) rfl rfl (Nat.zero_le _) (Nat.zero_le _) ?_
    refine aw_ldc2d dX6_laysNumber_62 kc_X6_248 ?_
    refine aw_dmul dX6_laysNumber_65 (n64e x1 x2) ?_
    refine aw_topdE x1 ?_
    refine aw_dstore [(4, .double x), (0, .ref 0), (1, .int (nI k)), (2, .long (fb k u))] dX6_laysNumber_66 (Nat.le_of_ble_eq_true rfl) rfl ?_
    refine aw_iconst (v := 0) dX6_laysNumber_68 (by decide) ?_
    refine aw_istore [(6, .int 0), (4, .double x), (0, .ref 0), (1, .int (nI k)), (2, .long (fb k u))] dX6_laysNumber_69 (Nat.le_of_ble_eq_true rfl) rfl ?_
    exact g
  rcases hu with rfl | ⟨s, c, r, h, rfl⟩
  · refine mid FP.dconst0 m0_8 n64_0 ?_
    have q := fin 0 FP.dconst0 0 (by rw [fb_0]; rfl) (by rw [fb_0]; rfl) d2l_0
    clear mid fin e0
    refine aw_dload dX6_laysNumber_71 1 rfl ?_
    refine aw_dconst0 dX6_laysNumber_73 ?_
    refine aw_dcmp dX6_laysNumber_74 ?_
    refine aw_if_eq 103 dX6_laysNumber_75 (by decide) (fun c1 => ?_) (fun c1 => absurd (cz_0 k0) c1)
    exact q
  · have h0 := okD_nrm0 h
    obtain ⟨b, t, g1, g2, g3, g4, g5, g6, g7⟩ := parts_of hk h
    obtain ⟨hE, -⟩ := okE_of hk h
    have o1 := odd_of hk s hE g2 g1
    have o2 := pow_of hk s hE g2 g1 g6
    rw [← fb_nd s h] at o1 o2
    have hR := rmK_le hk
    have hr1 := h.2.2.1
    have hr2 := h.2.2.2.1
    generalize hee : (r + 52 + bsK k).toNat + 3 + t - bsK k - rmK k = e at g7 o2
    refine mid (nd s c (r + 3)) (dmul_p 3 h0 (nrmw _ h0 (by omega) (by omega)) k8) ((nrmw _ h0 (by omega) (by omega)).n _) ?_
    have hd2 : FP.d2l (nd s c (-((52 - (rmK k - t) : Nat) : Int))) = Int64.ofInt (FP.Core.signed s (2 * b + 1)) := by
      refine d2l_v ((nrmw _ h0 (by omega) (by omega)).val s) ?_ (Nat.lt_trans g3 (by decide))
      rw [show (-((52 - (rmK k - t) : Nat) : Int)).toNat = 0 by omega, show (-(-((52 - (rmK k - t) : Nat) : Int))).toNat = 52 - (rmK k - t) by omega, Nat.pow_zero, Nat.mul_one, ← g5]
      exact Nat.mul_div_cancel _ (Nat.two_pow_pos _)
    have q := fin e _ _ o2 o1 hd2
    refine lp_ln k _ s c b (52 - (rmK k - t)) h0 g5.symm (by omega) e 0 (r + 3) (by omega) (by omega) (by omega) ?_
    rw [Nat.zero_add]
    exact q
theorem sp_ln {d : Nat} (hd : 2 ≤ d) {M : xM} {l : List Int32} (k : Nat) (v : Int64) (hT : TR M) (hk : k < 8) (hv : okN k v) (hl : l.length + 9 ≤ 1500) : Sp (fX6_laysNumber d) [.ref 0, .int (nI k), .long v] (emM M 0 13 8 l) (dt none (emM M 0 13 8 (l ++ nuC k v))) := by
  by_cases c : k < 6
  · exact sp_lnI hd k v hT c hl
  · exact sp_lnF hd k v hT (by omega) (hv.2 (by omega)) hl
