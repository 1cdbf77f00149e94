-- THE REFERENCE WRITES WORDS
theorem dig_lt : ∀ f c, c < 27 ^ f → c < 27 ^ dig f c ∧ (0 < c → 0 < dig f c) := by
  intro f
  induction f with
  | zero => intro c h; exact ⟨h, fun h0 => absurd h (by rw [Nat.pow_zero]; omega)⟩
  | succ f ih =>
    intro c h
    unfold dig
    by_cases c0 : c = 0
    · rw [if_pos c0]
      exact ⟨by rw [c0]; decide, fun h0 => absurd c0 (by omega)⟩
    · rw [if_neg c0]
      have q := (ih (c / 27) (Nat.div_lt_of_lt_mul (by rw [Nat.mul_comm, ← Nat.pow_succ]; exact h))).1
      refine ⟨?_, fun _ => Nat.succ_pos _⟩
      rw [Nat.pow_succ]
      omega
theorem p27_lt {b : Nat} (h : b ≤ 7) : 0 < 27 ^ b ∧ 27 ^ b < 2 ^ 63 := ⟨Nat.pow_pos (by decide), Nat.lt_of_le_of_lt (Nat.pow_le_pow_right (by decide) h) (by decide)⟩
theorem p27_s (b : Nat) : 27 ^ (b + 1) / 27 = 27 ^ b := by rw [Nat.pow_succ]; exact Nat.mul_div_cancel _ (by decide)
theorem m27 (c b : Nat) : c % 27 ^ (b + 1) / 27 ^ b = c / 27 ^ b % 27 := by
  rw [Nat.mod_pow_succ, Nat.add_mul_div_left _ _ (Nat.pow_pos (by decide)), Nat.div_eq_of_lt (Nat.mod_lt _ (Nat.pow_pos (by decide))), Nat.zero_add]
theorem mm27 (c b : Nat) : c % 27 ^ (b + 1) % 27 ^ b = c % 27 ^ b := Nat.mod_mod_of_dvd c (Nat.pow_dvd_pow 27 (by omega))
theorem add96 (n : Nat) : (96 : Int32) + nI n = nI (96 + n) := nI_add 96 n
theorem lp_lwd1 {d : Nat} {M : xM} {c : Nat} {post : Option Value → xM → Prop} : ∀ (f n x : Nat), n + f = 7 → x < 27 ^ f → (∀ y, AW (fX6_laysWord d) 45 [(6, .long y), (4, .long (lN (27 ^ (n + dig f x - 1)))), (3, .int (nI (n + dig f x))), (0, .ref 0), (1, .long (lN c))] [] M 0 0 post) → AW (fX6_laysWord d) 8 [(6, .long (lN x)), (4, .long (lN (27 ^ (n - 1)))), (3, .int (nI n)), (0, .ref 0), (1, .long (lN c))] [] M 0 0 post := by
  intro f
  induction f with
  | zero =>
    intro n x hn hx hk
    rw [show n + dig 0 x = n from rfl] at hk
    obtain rfl : x = 0 := by rw [Nat.pow_zero] at hx; omega
    refine aw_lload dX6_laysWord_8 0 rfl ?_
    refine aw_lconst (v := 0) dX6_laysWord_10 (by decide) ?_
    refine aw_lleN 0 0 45 dX6_laysWord_11 dX6_laysWord_12 (by decide) rfl rfl (by omega) (by omega) (fun c1 => ?_) (fun c1 => absurd (by omega) c1)
    exact hk _
  | succ f ih =>
    intro n x hn hx hk
    have hp := p27_lt (show f + 1 ≤ 7 by omega)
    have hx63 : x < 2 ^ 63 := Nat.lt_trans hx hp.2
    have hx2 : x / 27 < 27 ^ f := Nat.div_lt_of_lt_mul (by rw [Nat.mul_comm, ← Nat.pow_succ]; exact hx)
    clear hx hp
    by_cases c0 : x = 0
    · rw [show dig (f + 1) x = 0 from if_pos c0, Nat.add_zero] at hk
      refine aw_lload dX6_laysWord_8 0 rfl ?_
      refine aw_lconst (v := 0) dX6_laysWord_10 (by decide) ?_
      refine aw_lleN x 0 45 dX6_laysWord_11 dX6_laysWord_12 (by decide) rfl rfl (by omega) (by omega) (fun c1 => ?_) (fun c1 => absurd (by omega) c1)
      exact hk _
    · rw [show dig (f + 1) x = dig f (x / 27) + 1 from if_neg c0] at hk
      have g := ih (n + 1) (x / 27) (by omega) hx2 (fun y => by rw [show n + 1 + dig f (x / 27) = n + (dig f (x / 27) + 1) by omega]; exact hk y)
      rw [show n + 1 - 1 = n by omega] at g
      clear hx2 hk
      by_cases cn : n = 0
      · subst cn
        refine aw_lload dX6_laysWord_8 0 rfl ?_
        refine aw_lconst (v := 0) dX6_laysWord_10 (by decide) ?_
        refine aw_lleN x 0 45 dX6_laysWord_11 dX6_laysWord_12 (by decide) rfl rfl (by omega) (by omega) (fun c1 => absurd c1 (by omega)) (fun c1 => ?_)
        refine aw_lload dX6_laysWord_15 0 rfl ?_
        refine aw_ldc2 dX6_laysWord_17 kc_X6_69 ?_
        refine aw_ldivN x 27 dX6_laysWord_20 rfl rfl (by omega) (by first | decide | omega) (by first | decide | omega) ?_
        refine aw_lstore [(6, .long (lN (x / 27))), (4, .long (lN (27 ^ (0 - 1)))), (3, .int (nI 0)), (0, .ref 0), (1, .long (lN c))] dX6_laysWord_21 (Nat.le_of_ble_eq_true rfl) rfl ?_
        refine aw_iload_n dX6_laysWord_23 2 rfl ?_
        refine aw_if_ne 31 dX6_laysWord_24 (by decide) (fun c2 => absurd rfl c2) (fun c2 => ?_)
        refine aw_lconst (v := 1) dX6_laysWord_27 (by decide) ?_
        refine aw_goto 37 dX6_laysWord_28 (by decide) ?_
        refine aw_lstore [(4, .long 1), (6, .long (lN (x / 27))), (3, .int (nI 0)), (0, .ref 0), (1, .long (lN c))] dX6_laysWord_37 (Nat.le_of_ble_eq_true rfl) rfl ?_
        refine aw_iincN 0 1 [(3, .int (nI (0 + 1))), (4, .long 1), (6, .long (lN (x / 27))), (0, .ref 0), (1, .long (lN c))] dX6_laysWord_39 2 rfl rfl rfl (Nat.le_of_ble_eq_true rfl) rfl ?_
        refine aw_goto 8 dX6_laysWord_42 (by decide) ?_
        refine aw_sub [2, 1, 0, 3, 4] rfl ?_
        exact g
      · have e27 : lN (27 ^ (n - 1) * 27) = lN (27 ^ n) := by
          obtain ⟨m, rfl⟩ : ∃ m, n = m + 1 := ⟨n - 1, by omega⟩
          rw [show m + 1 - 1 = m by omega, Nat.pow_succ]
        refine aw_lload dX6_laysWord_8 0 rfl ?_
        refine aw_lconst (v := 0) dX6_laysWord_10 (by decide) ?_
        refine aw_lleN x 0 45 dX6_laysWord_11 dX6_laysWord_12 (by decide) rfl rfl (by omega) (by omega) (fun c1 => absurd c1 (by omega)) (fun c1 => ?_)
        refine aw_lload dX6_laysWord_15 0 rfl ?_
        refine aw_ldc2 dX6_laysWord_17 kc_X6_69 ?_
        refine aw_ldivN x 27 dX6_laysWord_20 rfl rfl (by omega) (by first | decide | omega) (by first | decide | omega) ?_
        refine aw_lstore [(6, .long (lN (x / 27))), (4, .long (lN (27 ^ (n - 1)))), (3, .int (nI n)), (0, .ref 0), (1, .long (lN c))] dX6_laysWord_21 (Nat.le_of_ble_eq_true rfl) rfl ?_
        refine aw_iload_n dX6_laysWord_23 2 rfl ?_
        refine aw_if_ne 31 dX6_laysWord_24 (by decide) (fun c2 => ?_) (fun c2 => absurd c2 (fun z => cn ((nI_00 (by omega)).mp z)))
        refine aw_lload dX6_laysWord_31 1 rfl ?_
        refine aw_ldc2 dX6_laysWord_33 kc_X6_69 ?_
        refine aw_lmulN (27 ^ (n - 1)) 27 dX6_laysWord_36 rfl rfl ?_
        refine aw_toplE e27 ?_
        refine aw_lstore [(4, .long (lN (27 ^ n))), (6, .long (lN (x / 27))), (3, .int (nI n)), (0, .ref 0), (1, .long (lN c))] dX6_laysWord_37 (Nat.le_of_ble_eq_true rfl) rfl ?_
        refine aw_iincN n 1 [(3, .int (nI (n + 1))), (4, .long (lN (27 ^ n))), (6, .long (lN (x / 27))), (0, .ref 0), (1, .long (lN c))] dX6_laysWord_39 2 rfl rfl rfl (Nat.le_of_ble_eq_true rfl) rfl ?_
        refine aw_goto 8 dX6_laysWord_42 (by decide) ?_
        refine aw_sub [2, 1, 0, 3, 4] rfl ?_
        exact g
theorem lp_lwd2 {d : Nat} (hd : 1 ≤ d) {M : xM} {c n : Nat} (hT : TR M) (hn : n ≤ 7) : ∀ (b i : Nat) (l : List Int32), i + b = n → l.length + b ≤ 1500 → AW (fX6_laysWord d) 62 [(8, .int (nI i)), (6, .long (lN (c % 27 ^ b))), (4, .long (lN (27 ^ b / 27))), (3, .int (nI n)), (0, .ref 0), (1, .long (lN c))] [] (emM M 0 13 8 l) 0 0 (dt none (emM M 0 13 8 (l ++ leB c b))) := by
  intro b
  induction b with
  | zero =>
    intro i l hi hl
    rw [show l ++ leB c 0 = l from List.append_nil l]
    refine aw_iload dX6_laysWord_62 0 rfl ?_
    refine aw_iload_n dX6_laysWord_64 3 rfl ?_
    refine aw_icmp_geN i n 102 dX6_laysWord_65 (by decide) rfl rfl (by omega) (by omega) (fun c1 => ?_) (fun c1 => absurd (by omega) c1)
    refine aw_ret dX6_laysWord_102 rfl (Nat.zero_le _) (Nat.zero_le _) ?_
    exact ⟨rfl, rfl⟩
  | succ b ih =>
    intro i l hi hl
    have g := ih (i + 1) (l ++ [nI (96 + c / 27 ^ b % 27)]) (by omega) (by simp only [List.length_append, List.length_cons, List.length_nil]; omega)
    rw [List.append_assoc, show [nI (96 + c / 27 ^ b % 27)] ++ leB c b = leB c (b + 1) from rfl] at g
    rw [p27_s b]
    have e1 := m27 c b
    have e2 := mm27 c b
    have hp := p27_lt (show b ≤ 7 by omega)
    have hx := Nat.lt_trans (Nat.mod_lt c (p27_lt (show b + 1 ≤ 7 by omega)).1) (p27_lt (show b + 1 ≤ 7 by omega)).2
    generalize 27 ^ b = p at hp e1 e2 g ⊢
    generalize c % 27 ^ (b + 1) = x at hx e1 e2 ⊢
    obtain ⟨hp0, hp1⟩ := hp
    rw [← e2] at g
    refine aw_iload dX6_laysWord_62 0 rfl ?_
    refine aw_iload_n dX6_laysWord_64 3 rfl ?_
    refine aw_icmp_geN i n 102 dX6_laysWord_65 (by decide) rfl rfl (by omega) (by omega) (fun c1 => absurd c1 (by omega)) (fun c1 => ?_)
    refine aw_aload_n dX6_laysWord_68 4 rfl ?_
    refine aw_bipush (v := 96) dX6_laysWord_69 (by decide) ?_
    refine aw_lload dX6_laysWord_71 1 rfl ?_
    refine aw_lload dX6_laysWord_73 2 rfl ?_
    refine aw_ldivN x p dX6_laysWord_75 rfl rfl (by omega) (by first | decide | omega) (by first | decide | omega) ?_
    refine aw_l2iN (x / p) dX6_laysWord_76 rfl ?_
    refine aw_iaddN 96 (x / p) dX6_laysWord_77 rfl rfl ?_
    refine aw_callVv [.int (nI (96 + (x / p)))] [] (show Sp (fX6_lays (d - 1)) [.ref 0, .int (nI (96 + (x / p)))] (emM M 0 13 8 l) (dt none (emM M 0 13 8 (l ++ [nI (96 + c / p % 27)]))) by rw [show nI (96 + (x / p)) = nI (96 + c / p % 27) from (by rw [e1])]; exact sp_ls (by omega) (l := l) _ hT (by omega)) dX6_laysWord_78 ml_X6_240 im_X6_lays (((sT_emM M 0 13 8 l).TR hT).s 0 (by decide)) (((sT_emM M 0 13 8 l).TR hT).n 0 (by decide)) rfl rfl (dl1 (d := d) (by omega)) rfl rfl (Nat.le_of_ble_eq_true rfl) rfl rfl (Nat.zero_le _) (Nat.zero_le _) ?_
    refine aw_lload dX6_laysWord_81 1 rfl ?_
    refine aw_lload dX6_laysWord_83 2 rfl ?_
    refine aw_lremN x p dX6_laysWord_85 rfl rfl (by omega) (by first | decide | omega) (by first | decide | omega) ?_
    refine aw_lstore [(6, .long (lN (x % p))), (8, .int (nI i)), (4, .long (lN p)), (3, .int (nI n)), (0, .ref 0), (1, .long (lN c))] dX6_laysWord_86 (Nat.le_of_ble_eq_true rfl) rfl ?_
    refine aw_lload dX6_laysWord_88 2 rfl ?_
    refine aw_ldc2 dX6_laysWord_90 kc_X6_69 ?_
    refine aw_ldivN p 27 dX6_laysWord_93 rfl rfl (by omega) (by first | decide | omega) (by first | decide | omega) ?_
    refine aw_lstore [(4, .long (lN (p / 27))), (6, .long (lN (x % p))), (8, .int (nI i)), (3, .int (nI n)), (0, .ref 0), (1, .long (lN c))] dX6_laysWord_94 (Nat.le_of_ble_eq_true rfl) rfl ?_
    refine aw_iincN i 1 [(8, .int (nI (i + 1))), (4, .long (lN (p / 27))), (6, .long (lN (x % p))), (3, .int (nI n)), (0, .ref 0), (1, .long (lN c))] dX6_laysWord_96 2 rfl rfl rfl (Nat.le_of_ble_eq_true rfl) rfl ?_
    refine aw_goto 62 dX6_laysWord_99 (by decide) ?_
    refine aw_sub [0, 2, 1, 3, 4, 5] rfl ?_
    exact g
theorem sp_lwd {d : Nat} (hd : 1 ≤ d) {M : xM} {l : List Int32} (c : Nat) (hT : TR M) (hc0 : 0 < c) (hc : c < 27 ^ 7) (hl : l.length + 9 ≤ 1500) : Sp (fX6_laysWord d) [.ref 0, .long (lN c)] (emM M 0 13 8 l) (dt none (emM M 0 13 8 (l ++ elB 8 (lN c)))) := by
  refine Sp.of pn_X6 (Nat.le_of_ble_eq_true rfl) (fun h => Bool.noConfusion h) ?_
  have h7 := dig_le 7 c
  have hdg := (dig_lt 7 c hc).1
  have g := lp_lwd2 (c := c) hd hT h7 (dig 7 c) 0 (l ++ [8] ++ [nI (dig 7 c)]) (by omega) (by simp only [List.length_append, List.length_cons, List.length_nil]; omega)
  rw [Nat.mod_eq_of_lt hdg] at g
  have e : l ++ [8] ++ [nI (dig 7 c)] ++ leB c (dig 7 c) = l ++ elB 8 (lN c) := by
    unfold elB woB
    rw [if_pos rfl, lC_N (Nat.lt_of_lt_of_le hc (by decide))]
    simp
    rfl
  rw [e] at g
  have hd0 := (dig_lt 7 c hc).2 hc0
  have ep : 27 ^ (dig 7 c) / 27 = 27 ^ (0 + dig 7 c - 1) := by
    obtain ⟨m, hm⟩ : ∃ m, dig 7 c = m + 1 := ⟨dig 7 c - 1, by omega⟩
    rw [hm, p27_s, show 0 + (m + 1) - 1 = m by omega]
  rw [ep] at g
  have k1 : ∀ y, AW (fX6_laysWord d) 45 [(6, .long y), (4, .long (lN (27 ^ (0 + dig 7 c - 1)))), (3, .int (nI (dig 7 c))), (0, .ref 0), (1, .long (lN c))] [] (emM M 0 13 8 l) 0 0 (dt none (emM M 0 13 8 (l ++ elB 8 (lN c)))) := by
    intro y
    clear e hc hdg ep
    refine aw_aload_n dX6_laysWord_45 3 rfl ?_
    refine aw_bipush (v := 8) dX6_laysWord_46 (by decide) ?_
    refine aw_callVv [.int 8] [] (sp_ls (d := d - 1) (by omega) (l := l) 8 hT (by first | omega | (simp only [List.length_append, List.length_cons, List.length_nil, byB_len] at *; omega))) dX6_laysWord_48 ml_X6_240 im_X6_lays (((sT_emM M 0 13 8 l).TR hT).s 0 (by decide)) (((sT_emM M 0 13 8 l).TR hT).n 0 (by decide)) rfl rfl (dl1 (d := d) (by omega)) rfl rfl (Nat.le_of_ble_eq_true rfl) rfl rfl (Nat.zero_le _) (Nat.zero_le _) ?_
    refine aw_aload_n dX6_laysWord_51 3 rfl ?_
    refine aw_iload_n dX6_laysWord_52 2 rfl ?_
    refine aw_callVv [.int (nI (dig 7 c))] [] (sp_ls (d := d - 1) (by omega) (l := l ++ [8]) (nI (dig 7 c)) hT (by first | omega | (simp only [List.length_append, List.length_cons, List.length_nil, byB_len] at *; omega))) dX6_laysWord_53 ml_X6_240 im_X6_lays (((sT_emM M 0 13 8 (l ++ [8])).TR hT).s 0 (by decide)) (((sT_emM M 0 13 8 (l ++ [8])).TR hT).n 0 (by decide)) rfl rfl (dl1 (d := d) (by omega)) rfl rfl (Nat.le_of_ble_eq_true rfl) rfl rfl (Nat.zero_le _) (Nat.zero_le _) ?_
    refine aw_lload_n dX6_laysWord_56 4 rfl ?_
    refine aw_lstore [(6, .long (lN c)), (4, .long (lN (27 ^ (0 + dig 7 c - 1)))), (3, .int (nI (dig 7 c))), (0, .ref 0), (1, .long (lN c))] dX6_laysWord_57 (Nat.le_of_ble_eq_true rfl) rfl ?_
    refine aw_iconst (v := 0) dX6_laysWord_59 (by decide) ?_
    refine aw_istore [(8, .int 0), (6, .long (lN c)), (4, .long (lN (27 ^ (0 + dig 7 c - 1)))), (3, .int (nI (dig 7 c))), (0, .ref 0), (1, .long (lN c))] dX6_laysWord_60 (Nat.le_of_ble_eq_true rfl) rfl ?_
    exact g
  have k2 := lp_lwd1 (d := d) (c := c) 7 0 c (by omega) hc (fun y => by rw [Nat.zero_add]; have q := k1 y; rw [Nat.zero_add] at q; exact q)
  refine aw_iconst (v := 0) dX6_laysWord_0 (by decide) ?_
  refine aw_istore_n [(3, .int 0), (0, .ref 0), (1, .long (lN c))] dX6_laysWord_1 (Nat.le_of_ble_eq_true rfl) rfl ?_
  refine aw_lconst (v := 1) dX6_laysWord_2 (by decide) ?_
  refine aw_lstore [(4, .long 1), (3, .int 0), (0, .ref 0), (1, .long (lN c))] dX6_laysWord_3 (Nat.le_of_ble_eq_true rfl) rfl ?_
  refine aw_lload_n dX6_laysWord_5 3 rfl ?_
  refine aw_lstore [(6, .long (lN c)), (4, .long 1), (3, .int 0), (0, .ref 0), (1, .long (lN c))] dX6_laysWord_6 (Nat.le_of_ble_eq_true rfl) rfl ?_
  exact k2
