-- THE REFERENCE: small methods
def lst (p : Nat → Bool) : Nat → Nat → Int32
  | 0, _ => -1
  | n + 1, i => if p i = true then nI i else lst p n (i + 1)
def cnt (p : Nat → Bool) : Nat → Nat → Nat → Nat
  | 0, _, k => k
  | n + 1, i, k => cnt p n (i + 1) (if p i = true then k + 1 else k)
theorem cnt_le (p : Nat → Bool) : ∀ n i k, cnt p n i k ≤ k + n
  | 0, _, k => Nat.le_refl k
  | n + 1, i, k => by
    have h := cnt_le p n (i + 1) (if p i = true then k + 1 else k)
    unfold cnt
    split at h <;> split <;> simp_all <;> omega
abbrev rEmp (M : xM) (t : Nat) : Bool := decide (mI M 1 t < 0)
def sX6_free (M : xM) : Int32 := lst (rEmp M) 12 0
def sX6_things (M : xM) : Int32 := nI (cnt (fun t => !rEmp M t) 12 0 0)
theorem sp_X6_free {d : Nat} (hd : 0 ≤ d) {M : xM} (hT : TR M) : Sp (fX6_free d) [.ref 0] M (dt (some (.int (sX6_free M))) M) := by
  refine Sp.of pn_X6 (Nat.le_of_ble_eq_true rfl) (fun h => Bool.noConfusion h) ?_
  have loop : ∀ (n i : Nat), i + n = 12 → AW (fX6_free d) 2 [(1, .int (nI i)), (0, .ref 0)] [] M 0 0 (dt (some (.int (lst (rEmp M) n i))) M) := by
    intro n
    induction n with
    | zero =>
      intro i hi
      refine aw_iload_n dX6_free_2 0 rfl ?_
      refine aw_bipush (v := 12) dX6_free_3 (by decide) ?_
      refine aw_icmp_geN i 12 25 dX6_free_5 (by decide) rfl rfl (by omega) (by omega) (fun c1 => ?_) (fun c1 => absurd (by omega) c1)
      refine aw_iconst (v := -1) dX6_free_25 (by decide) ?_
      refine aw_iret dX6_free_26 rfl (Nat.zero_le _) (Nat.zero_le _) ?_
      exact ⟨rfl, rfl⟩
    | succ n ih =>
      intro i hi
      refine aw_iload_n dX6_free_2 0 rfl ?_
      refine aw_bipush (v := 12) dX6_free_3 (by decide) ?_
      refine aw_icmp_geN i 12 25 dX6_free_5 (by decide) rfl rfl (by omega) (by omega) (fun c1 => absurd c1 (by omega)) (fun c1 => ?_)
      refine aw_aload_n dX6_free_8 1 rfl ?_
      refine aw_getR (b := 1) dX6_free_9 fl_X6_7 rfl (hT.s 0 (by decide)) (hT.n 0 (by decide)) (hT.r 0) ?_
      refine aw_iload_n dX6_free_12 0 rfl ?_
      refine aw_ialdN i dX6_free_13 (hT.s 1 (by decide)) (hT.n 1 (by decide)) rfl (by omega) (by first | decide | omega) ?_
      refine aw_if_ge 19 dX6_free_14 (by decide) (fun c2 => ?_) (fun c2 => ?_)
      · refine aw_iincN i 1 [(1, .int (nI (i + 1))), (0, .ref 0)] dX6_free_19 0 rfl rfl rfl (Nat.le_of_ble_eq_true rfl) rfl ?_
        refine aw_goto 2 dX6_free_22 (by decide) ?_
        have e : lst (rEmp M) (n + 1) i = lst (rEmp M) n (i + 1) := by
          show (if rEmp M i = true then nI i else lst (rEmp M) n (i + 1)) = _
          exact if_neg (fun q => Int32.not_lt.mpr c2 (of_decide_eq_true q))
        rw [e]
        exact ih (i + 1) (by omega)
      · refine aw_iload_n dX6_free_17 0 rfl ?_
        refine aw_iret dX6_free_18 rfl (Nat.zero_le _) (Nat.zero_le _) ?_
        exact ⟨congrArg (fun z => some (Value.int z)) (show lst (rEmp M) (n + 1) i = nI i by unfold lst; exact if_pos (decide_eq_true (Int32.not_le.mp c2))).symm, rfl⟩
  refine aw_iconst (v := 0) dX6_free_0 (by decide) ?_
  refine aw_istore_n [(1, .int 0), (0, .ref 0)] dX6_free_1 (Nat.le_of_ble_eq_true rfl) rfl ?_
  exact loop 12 0 (by omega)
