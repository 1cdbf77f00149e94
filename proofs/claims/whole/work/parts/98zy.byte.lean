-- BYTES WRITTEN ARE BYTES
def isB (x : Int32) : Prop := ∃ b, b < 256 ∧ x = nI b
def allB (l : List Int32) : Prop := ∀ x, x ∈ l → isB x
theorem allB_n : allB [] := fun x h => absurd h List.not_mem_nil
theorem allB_c {x : Int32} {l : List Int32} (h : isB x) (hl : allB l) : allB (x :: l) := by
  intro y hy
  rcases List.mem_cons.mp hy with q | q
  · rw [q]; exact h
  · exact hl y q
theorem allB_a {l k : List Int32} (h : allB l) (hk : allB k) : allB (l ++ k) := by
  intro y hy
  rcases List.mem_append.mp hy with q | q
  · exact h y q
  · exact hk y q
theorem isB_n {n : Nat} (h : n < 256) : isB (nI n) := ⟨n, h, rfl⟩
theorem isB_and (x : Int32) : isB (x &&& 255) := by
  obtain ⟨n, -, e⟩ := wb_of32 x
  refine ⟨n % 256, Nat.mod_lt _ (by decide), ?_⟩
  rw [e]
  show nI n &&& nI 255 = _
  rw [nx_and, show n &&& 255 = n % 256 from Nat.and_two_pow_sub_one_eq_mod n 8]
theorem byB_b (v : Int64) : ∀ j, allB (byB v j)
  | 0 => allB_n
  | j + 1 => allB_c (isB_and _) (byB_b v j)
theorem pow_b {k : Nat} (hk : k = 6 ∨ k = 7) {v : Int64} (h : okF k v) : isB (sX0_powerPart (nI k) v) := by
  obtain ⟨u, hu, -, rfl⟩ := h
  rcases hu with rfl | ⟨s, c, r, hD, rfl⟩
  · rw [fb_0]
    exact ⟨0, by decide, by unfold sX0_powerPart; rw [if_pos rfl]; rfl⟩
  · obtain ⟨hE, -⟩ := okE_of hk hD
    obtain ⟨b, t, p1, p2, -, -, -, p6, p7⟩ := parts_of hk hD
    rw [fb_nd s hD, pow_of hk s hE p2 p1 p6]
    refine isB_n ?_
    have := hD.2.2.2.1
    have := (rmK_le hk).2
    omega
theorem nuC_b {k : Nat} (hk : k < 8) {v : Int64} (h : okN k v) : allB (nuC k v) := by
  unfold nuC
  split
  · exact byB_b _ _
  · exact allB_c (pow_b (by omega) (h.2 (by omega))) (byB_b _ _)
theorem stB_b : ∀ g u, u < 256 * 128 ^ g → allB (stB g u)
  | 0, u, h => allB_c (isB_n (by omega)) allB_n
  | g + 1, u, h => by
    unfold stB
    split
    · exact allB_c (isB_n (by omega)) allB_n
    · refine allB_c (isB_n (by omega)) (stB_b g (u / 128) ?_)
      rw [Nat.pow_succ] at h
      apply Nat.div_lt_of_lt_mul
      rw [Nat.mul_comm 128, Nat.mul_assoc]
      exact h
theorem ssB_b (V : Nat → Int64) : ∀ n i b, allB (ssB V n i b)
  | 0, _, _ => allB_n
  | n + 1, i, b => allB_a (stB_b 9 _ (Nat.lt_of_lt_of_le (zgN_eq _).2 (by decide))) (ssB_b V n (i + 1) (V i))
theorem flB_b {k : Nat} (hk : k < 8) (V : Nat → Int64) : ∀ n i, (∀ j, j < i + n → okN k (V j)) → allB (flB k V n i)
  | 0, _, _ => allB_n
  | n + 1, i, h => allB_a (nuC_b hk (h i (by omega))) (flB_b hk V n (i + 1) (fun j hj => h j (by omega)))
theorem ruB_b {k : Nat} (hk : k < 8) (V : Nat → Int64) {z : Nat} (hz : z ≤ 12) (hV : ∀ j, j < z → okN k (V j)) : ∀ n j b, j + n = z + 1 → b < z ∨ n = 0 → b < j → allB (ruB k V z n j b)
  | 0, _, _, _, _, _ => allB_n
  | n + 1, j, b, h, hb, hj => by
    unfold ruB
    split
    · exact ruB_b hk V hz hV n (j + 1) b (by omega) (by omega) (by omega)
    · exact allB_c (isB_n (by omega)) (allB_a (nuC_b hk (hV b (by omega))) (ruB_b hk V hz hV n (j + 1) j (by omega) (by omega) (by omega)))
theorem leB_b (c : Nat) : ∀ b, allB (leB c b)
  | 0 => allB_n
  | b + 1 => allB_c (isB_n (by have := Nat.mod_lt (c / 27 ^ b) (show 0 < 27 by decide); omega)) (leB_b c b)
theorem woB_b (c : Nat) : allB (woB c) := allB_c (isB_n (by have := dig_le 7 c; omega)) (leB_b c _)
theorem prB_b (m : Nat) (hm : m < 3) {k : Nat} (hk : k < 8) {z : Nat} (hz : z ≤ 12) (V : Nat → Int64) (hV : ∀ j, j < z → okN k (V j)) : allB (prB m k z V) := by
  unfold prB
  have hf : foP m k < 3 := by unfold foP; split <;> omega
  refine allB_a (allB_c (isB_n (by omega)) (allB_c (isB_n (by omega)) allB_n)) ?_
  split
  · rcases Nat.eq_zero_or_pos z with q | q
    · subst q; exact allB_n
    · exact ruB_b hk V hz hV z 1 0 (by omega) (by omega) (by omega)
  · split
    · exact ssB_b V z 0 0
    · exact flB_b hk V z 0 (fun j hj => hV j (by omega))
theorem elB_b {w : Nat} (hw : w < 12) {v : Int64} (h : w < 8 → okN w v) (h9 : w = 9 → ∃ b, b < 6 ∧ v = lN b) : allB (elB w v) := by
  unfold elB
  refine allB_c (isB_n (by omega)) ?_
  split
  · exact woB_b _
  · split
    · rename_i q
      obtain ⟨b, b1, rfl⟩ := h9 q
      exact allB_c ⟨b, by omega, (by decide : ∀ b, b < 6 → (lN b).toInt32 = nI b) b b1⟩ allB_n
    · split
      · rename_i q
        exact nuC_b q (h q)
      · exact allB_n
/-- rows whose cells give bytes -/
def byOk (K Z : Nat → Nat) (W : Nat → Nat → Nat) (V : Nat → Nat → Int64) : Prop := ∀ t, t < 12 → K t < 14 → ∀ j, j < Z t → (W t j < 8 → okN (W t j) (V t j)) ∧ (W t j = 9 → ∃ b, b < 6 ∧ V t j = lN b) ∧ (K t < 8 → W t j = K t)
section
variable {m : Nat} {K Z : Nat → Nat} {W : Nat → Nat → Nat} {V : Nat → Nat → Int64}
theorem wA_b (hm : m < 3) (hL : lkOk K Z W V) (hB : byOk K Z W V) : ∀ g t ms, t < 12 → K t < 14 → msOk ms → allB (wA m K Z W V g t ms).1 := by
  intro g
  induction g with
  | zero =>
    intro t ms ht hk hms
    unfold wA
    split
    · rename_i c
      exact allB_c ⟨10, by decide, rfl⟩ (allB_c (isB_n (by have := List.idxOf_lt_length_of_mem c; have := ms_len hms; omega)) allB_n)
    · exact allB_n
  | succ g ih =>
    intro t ms ht hk hms
    unfold wA
    split
    · rename_i c
      exact allB_c ⟨10, by decide, rfl⟩ (allB_c (isB_n (by have := List.idxOf_lt_length_of_mem c; have := ms_len hms; omega)) allB_n)
    · rename_i c
      obtain ⟨hz, hc⟩ := hL t ht hk
      split
      · rename_i c8
        refine prB_b m hm c8 hz (V t) (fun j hj => ?_)
        obtain ⟨q1, -, q3⟩ := hB t ht hk j hj
        have e := q3 c8
        rw [e] at q1
        exact q1 c8
      · refine allB_a (allB_c (isB_n (by omega)) (allB_c (isB_n (by omega)) allB_n)) ?_
        have ce : ∀ n j ms, j + n = Z t → msOk ms → allB (ceB (wA m K Z W V g) (W t) (V t) n j ms).1 := by
          intro n
          induction n with
          | zero => intro j ms _ _; exact allB_n
          | succ n ihn =>
            intro j ms hj hms
            obtain ⟨h1, h2, h3⟩ := hc j (by omega)
            unfold ceB
            split
            · rename_i c10
              obtain ⟨u, u1, u2, u3⟩ := h2 c10
              have e : lC (V t j) = u := by rw [u2, lC_N (by omega)]
              rw [e]
              have q := wA_inv (m := m) hL g u ms u1 u3 hms
              exact allB_a (ih u ms u1 u3 hms) (ihn (j + 1) _ (by omega) q.1)
            · obtain ⟨q1, q2, -⟩ := hB t ht hk j (by omega)
              exact allB_a (elB_b h1 q1 q2) (ihn (j + 1) ms (by omega) hms)
        exact ce (Z t) 0 (ms ++ [t]) (by omega) (ms_add hms ht c)
theorem itR_b (hm : m < 3) (hL : lkOk K Z W V) (hB : byOk K Z W V) {t : Nat} (ht : t < 12) (h14 : K t = 14 → ∃ b, b < 6 ∧ V t 0 = lN b) (hk : K t < 16) : allB (itR m K Z W V t).1 := by
  unfold itR
  split
  · rename_i c
    exact wA_b hm hL hB 12 t [] ht c ms_nil
  · split
    · exact elB_b (by decide) (fun z => absurd z (by decide)) (fun z => absurd z (by decide))
    · exact elB_b (by decide) (fun z => absurd z (by decide)) (fun _ => h14 (by omega))
end
theorem sl_by {MC MR : xM} {κ ζ : Nat → Nat} (hS : ∀ t, t < 12 → RelT MC MR κ ζ t) : byOk κ ζ (slW MR) (slV MR κ) := by
  intro t ht hk j hj
  obtain ⟨c1, c2, c3, c4⟩ := cells_of (hS t ht) j hj
  have ev : slV MR κ t j = mL MR 5 (12 * t + j) := if_neg (by omega)
  rw [ev]
  unfold okC at c4
  obtain ⟨o1, o2, -, -, -, -, -, oN, -, o9, -⟩ := c4
  exact ⟨oN, o9, o2⟩
theorem sl_b {MC MR : xM} {κ ζ : Nat → Nat} (hS : ∀ t, t < 12 → RelT MC MR κ ζ t) {m t : Nat} (hm : m < 3) (ht : t < 12) (hk : κ t < 16) : allB (itR m κ ζ (slW MR) (slV MR κ) t).1 := by
  refine itR_b hm (sl_lk hS) (sl_by hS) ht (fun h => ?_) hk
  rw [show slV MR κ t 0 = mL MR 3 t from if_pos (by omega)]
  exact ((hS t ht).2.2.2.2.2.2.2.1 (by omega) hk).2.1 h
