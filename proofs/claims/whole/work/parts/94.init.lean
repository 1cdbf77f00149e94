-- THE START IS RELATED
def NK (n : Nat) (M : xM) : Prop := ∀ a k, n ≤ k → mR M a k = none
theorem NK.nw {n : Nat} {M : xM} (h : NK n M) (sh : Nat × Nat) : NK n (nwM M sh) := by
  intro a k hk
  by_cases c : a = mN M
  · subst c; rw [nw_R0]
  · rw [nw_R M sh c]; exact h a k hk
theorem NK.r {n : Nat} {M : xM} (h : NK n M) (b j : Nat) (v : Option Nat) (hj : j < n) : NK n (stR M b j v) := by
  intro a k hk
  show xup M.2.2.1 b j v a k = none
  rw [xup_k _ b v (show k ≠ j by omega)]
  exact h a k hk
theorem NK.i {n : Nat} {M : xM} (h : NK n M) (b j : Nat) (v : Int32) : NK n (stI M b j v) := h
theorem NK.l {n : Nat} {M : xM} (h : NK n M) (b j : Nat) (v : Int64) : NK n (stL M b j v) := h
theorem NK.row {n : Nat} {M : xM} (h : NK n M) (hn : 14 ≤ n) (b : Nat) : NK n (rowM M b) := by
  unfold rowM
  exact ((((h.i b 0 (-1)).i b 1 0).nw _).r _ _ _ (by omega)).nw _ |>.r _ _ _ (by omega)
theorem NK.str {n : Nat} {M : xM} (h : NK n M) (hn : 14 ≤ n) (b q : Nat) : NK n (strM M b q) := by
  unfold strM
  exact ((h.i b 1 0).nw _).r _ _ _ (by omega)
theorem NK.wri {n : Nat} {M : xM} (h : NK n M) (hn : 14 ≤ n) (b r o : Nat) : NK n (wriM M b r o) := by
  unfold wriM
  exact ((((((h.nw _).r _ _ _ (by omega)).i b 3 0).i b 4 0).r _ _ _ (by omega)).r _ _ _ (by omega))
theorem NK.em (n : Nat) : NK n em0 := fun _ _ _ => rfl
theorem nk_kc0 : NK 14 kc0 := (NK.em 14).nw _
theorem nk_kc1 : NK 14 kc1 := nk_kc0.nw _
theorem nk_kc2 : NK 14 kc2 := nk_kc1.r _ _ _ (by decide)
theorem nk_kc3 : NK 14 kc3 := nk_kc2.nw _
theorem nk_kc4 : NK 14 kc4 := nk_kc3.str (by decide) _ _
theorem nk_kc5 : NK 14 kc5 := nk_kc4.r _ _ _ (by decide)
theorem nk_kc6 : NK 14 kc6 := nk_kc5.nw _
theorem nk_kc7 : NK 14 kc7 := nk_kc6.str (by decide) _ _
theorem nk_kc8 : NK 14 kc8 := nk_kc7.r _ _ _ (by decide)
theorem nk_kc9 : NK 14 kc9 := nk_kc8.nw _
theorem nk_kc10 : NK 14 kc10 := nk_kc9.str (by decide) _ _
theorem nk_kc11 : NK 14 kc11 := nk_kc10.r _ _ _ (by decide)
theorem nk_kc12 : NK 14 kc12 := nk_kc11.nw _
theorem nk_kr_1 : NK 14 kr_1 := nk_kc12.nw _
theorem nk_kr_2 : NK 14 kr_2 := nk_kr_1.r _ _ _ (by decide)
theorem nk_kr_3 : NK 14 kr_3 := nk_kr_2.i _ _ _
theorem nk_kr_4 : NK 14 kr_4 := nk_kr_3.i _ _ _
theorem nk_kr_5 : NK 14 kr_5 := nk_kr_4.i _ _ _
theorem nk_kr_6 : NK 14 kr_6 := nk_kr_5.l _ _ _
theorem nk_kr_7 : NK 14 kr_7 := nk_kr_6.r _ _ _ (by decide)
theorem nk_kr12 : ∀ i, i ≤ 12 → NK 14 (kr12 i)
  | 0, _ => nk_kr_7
  | i + 1, h => (((nk_kr12 i (by omega)).nw _).row (by decide) _).r _ _ _ (by omega)
theorem nk_kc13 : NK 14 kc13 := nk_kr12 12 (by decide)
theorem nk_kc14 : NK 14 kc14 := nk_kc13.r _ _ _ (by decide)
theorem nk_kc15 : NK 14 kc15 := nk_kc14.nw _
theorem nk_kc16 : NK 14 kc16 := nk_kc15.wri (by decide) _ _ _
theorem nk_kc17 : NK 14 kc17 := nk_kc16.r _ _ _ (by decide)
theorem nk_kc18 : NK 14 kc18 := nk_kc17.nw _
theorem nk_kc19 : NK 14 kc19 := nk_kc18.wri (by decide) _ _ _
theorem nk_kc20 : NK 14 kc20 := nk_kc19.r _ _ _ (by decide)
theorem nk_kc21 : NK 14 kc21 := nk_kc20.nw _
theorem nk_kc22 : NK 14 kc22 := nk_kc21.wri (by decide) _ _ _
theorem nk_kc23 : NK 14 kc23 := nk_kc22.r _ _ _ (by decide)
theorem nk_kc24 : NK 14 kc24 := nk_kc23.nw _
theorem nk_kc25 : NK 14 kc25 := nk_kc24.r _ _ _ (by decide)
theorem nk_kc26 : NK 14 kc26 := nk_kc25.nw _
theorem nk_kc27 : NK 14 kc27 := nk_kc26.r _ _ _ (by decide)
theorem nk_kc28 : NK 14 kc28 := nk_kc27.i _ _ _
theorem nk_kc29 : NK 14 kc29 := nk_kc28.i _ _ _
theorem nk_kc30 : NK 14 kc30 := nk_kc29.i _ _ _
theorem nk_kc31 : NK 14 kc31 := nk_kc30.i _ _ _
theorem nk_kp12 : ∀ i, i ≤ 12 → NK 14 (kp12 i)
  | 0, _ => nk_kc31
  | i + 1, h => (((nk_kp12 i (by omega)).nw _).row (by decide) _).r _ _ _ (by omega)
theorem nk_km0 : NK 33 km0 := (NK.em 33).nw _
theorem nk_km1 : NK 33 km1 := nk_km0.nw _
theorem nk_km2 : NK 33 km2 := nk_km1.r _ _ _ (by decide)
theorem nk_km3 : NK 33 km3 := nk_km2.nw _
theorem nk_km4 : NK 33 km4 := nk_km3.r _ _ _ (by decide)
theorem nk_km5 : NK 33 km5 := nk_km4.nw _
theorem nk_km6 : NK 33 km6 := nk_km5.r _ _ _ (by decide)
theorem nk_km7 : NK 33 km7 := nk_km6.nw _
theorem nk_km8 : NK 33 km8 := nk_km7.r _ _ _ (by decide)
theorem nk_km9 : NK 33 km9 := nk_km8.nw _
theorem nk_km10 : NK 33 km10 := nk_km9.r _ _ _ (by decide)
theorem nk_km11 : NK 33 km11 := nk_km10.nw _
theorem nk_km12 : NK 33 km12 := nk_km11.r _ _ _ (by decide)
theorem nk_km13 : NK 33 km13 := nk_km12.i _ _ _
theorem nk_km14 : NK 33 km14 := nk_km13.nw _
theorem nk_km15 : NK 33 km15 := nk_km14.r _ _ _ (by decide)
theorem nk_km16 : NK 33 km16 := nk_km15.nw _
theorem nk_km17 : NK 33 km17 := nk_km16.r _ _ _ (by decide)
theorem nk_km18 : NK 33 km18 := nk_km17.nw _
theorem nk_km19 : NK 33 km19 := nk_km18.r _ _ _ (by decide)
theorem nk_km20 : NK 33 km20 := nk_km19.nw _
theorem nk_km21 : NK 33 km21 := nk_km20.r _ _ _ (by decide)
theorem nk_km22 : NK 33 km22 := nk_km21.nw _
theorem nk_km23 : NK 33 km23 := nk_km22.r _ _ _ (by decide)
theorem nk_km24 : NK 33 km24 := nk_km23.nw _
theorem nk_km25 : NK 33 km25 := nk_km24.r _ _ _ (by decide)
theorem nk_km26 : NK 33 km26 := nk_km25.nw _
theorem nk_km27 : NK 33 km27 := nk_km26.r _ _ _ (by decide)
theorem nk_km28 : NK 33 km28 := nk_km27.nw _
theorem nk_km29 : NK 33 km29 := nk_km28.r _ _ _ (by decide)
theorem nk_km30 : NK 33 km30 := nk_km29.nw _
theorem nk_km31 : NK 33 km31 := nk_km30.i _ _ _
theorem nk_km32 : NK 33 km32 := nk_km31.i _ _ _
theorem nk_km33 : NK 33 km33 := nk_km32.i _ _ _
theorem nk_km34 : NK 33 km34 := nk_km33.i _ _ _
theorem nk_km35 : NK 33 km35 := nk_km34.i _ _ _
theorem nk_km36 : NK 33 km36 := nk_km35.i _ _ _
theorem nk_km37 : NK 33 km37 := nk_km36.i _ _ _
theorem nk_km38 : NK 33 km38 := nk_km37.i _ _ _
theorem nk_km39 : NK 33 km39 := nk_km38.i _ _ _
theorem nk_km40 : NK 33 km40 := nk_km39.i _ _ _
theorem nk_km41 : NK 33 km41 := nk_km40.i _ _ _
theorem nk_km42 : NK 33 km42 := nk_km41.i _ _ _
theorem nk_km43 : NK 33 km43 := nk_km42.i _ _ _
theorem nk_km44 : NK 33 km44 := nk_km43.i _ _ _
theorem nk_km45 : NK 33 km45 := nk_km44.i _ _ _
theorem nk_km46 : NK 33 km46 := nk_km45.i _ _ _
theorem nk_km47 : NK 33 km47 := nk_km46.i _ _ _
theorem nk_km48 : NK 33 km48 := nk_km47.i _ _ _
theorem nk_km49 : NK 33 km49 := nk_km48.i _ _ _
theorem nk_km50 : NK 33 km50 := nk_km49.i _ _ _
theorem nk_km51 : NK 33 km51 := nk_km50.i _ _ _
theorem nk_km52 : NK 33 km52 := nk_km51.i _ _ _
theorem nk_km53 : NK 33 km53 := nk_km52.i _ _ _
theorem nk_km54 : NK 33 km54 := nk_km53.i _ _ _
theorem nk_km55 : NK 33 km55 := nk_km54.i _ _ _
theorem nk_km56 : NK 33 km56 := nk_km55.i _ _ _
theorem nk_km57 : NK 33 km57 := nk_km56.i _ _ _
theorem nk_km58 : NK 33 km58 := nk_km57.i _ _ _
theorem nk_km59 : NK 33 km59 := nk_km58.i _ _ _
theorem nk_km60 : NK 33 km60 := nk_km59.i _ _ _
theorem nk_km61 : NK 33 km61 := nk_km60.i _ _ _
theorem nk_km62 : NK 33 km62 := nk_km61.i _ _ _
theorem nk_km63 : NK 33 km63 := nk_km62.i _ _ _
theorem nk_km64 : NK 33 km64 := nk_km63.i _ _ _
theorem nk_km65 : NK 33 km65 := nk_km64.i _ _ _
theorem nk_km66 : NK 33 km66 := nk_km65.i _ _ _
theorem nk_km67 : NK 33 km67 := nk_km66.i _ _ _
theorem nk_km68 : NK 33 km68 := nk_km67.i _ _ _
theorem nk_km69 : NK 33 km69 := nk_km68.r _ _ _ (by decide)
theorem nk_km70 : NK 33 km70 := nk_km69.nw _
theorem nk_km71 : NK 33 km71 := nk_km70.i _ _ _
theorem nk_km72 : NK 33 km72 := nk_km71.i _ _ _
theorem nk_km73 : NK 33 km73 := nk_km72.i _ _ _
theorem nk_km74 : NK 33 km74 := nk_km73.i _ _ _
theorem nk_km75 : NK 33 km75 := nk_km74.i _ _ _
theorem nk_km76 : NK 33 km76 := nk_km75.i _ _ _
theorem nk_km77 : NK 33 km77 := nk_km76.i _ _ _
theorem nk_km78 : NK 33 km78 := nk_km77.i _ _ _
theorem nk_km79 : NK 33 km79 := nk_km78.i _ _ _
theorem nk_km80 : NK 33 km80 := nk_km79.i _ _ _
theorem nk_km81 : NK 33 km81 := nk_km80.i _ _ _
theorem nk_km82 : NK 33 km82 := nk_km81.i _ _ _
theorem nk_km83 : NK 33 km83 := nk_km82.i _ _ _
theorem nk_km84 : NK 33 km84 := nk_km83.i _ _ _
theorem nk_km85 : NK 33 km85 := nk_km84.i _ _ _
theorem nk_km86 : NK 33 km86 := nk_km85.i _ _ _
theorem nk_km87 : NK 33 km87 := nk_km86.i _ _ _
theorem nk_km88 : NK 33 km88 := nk_km87.i _ _ _
theorem nk_km89 : NK 33 km89 := nk_km88.i _ _ _
theorem nk_km90 : NK 33 km90 := nk_km89.i _ _ _
theorem nk_km91 : NK 33 km91 := nk_km90.i _ _ _
theorem nk_km92 : NK 33 km92 := nk_km91.i _ _ _
theorem nk_km93 : NK 33 km93 := nk_km92.i _ _ _
theorem nk_km94 : NK 33 km94 := nk_km93.i _ _ _
theorem nk_km95 : NK 33 km95 := nk_km94.i _ _ _
theorem nk_km96 : NK 33 km96 := nk_km95.i _ _ _
theorem nk_km97 : NK 33 km97 := nk_km96.i _ _ _
theorem nk_km98 : NK 33 km98 := nk_km97.i _ _ _
theorem nk_km99 : NK 33 km99 := nk_km98.i _ _ _
theorem nk_km100 : NK 33 km100 := nk_km99.i _ _ _
theorem nk_km101 : NK 33 km101 := nk_km100.i _ _ _
theorem nk_km102 : NK 33 km102 := nk_km101.i _ _ _
theorem nk_km103 : NK 33 km103 := nk_km102.i _ _ _
theorem nk_km104 : NK 33 km104 := nk_km103.i _ _ _
theorem nk_km105 : NK 33 km105 := nk_km104.i _ _ _
theorem nk_km106 : NK 33 km106 := nk_km105.r _ _ _ (by decide)
theorem nk_km107 : NK 33 km107 := nk_km106.nw _
theorem nk_km108 : NK 33 km108 := nk_km107.i _ _ _
theorem nk_km109 : NK 33 km109 := nk_km108.i _ _ _
theorem nk_km110 : NK 33 km110 := nk_km109.i _ _ _
theorem nk_km111 : NK 33 km111 := nk_km110.i _ _ _
theorem nk_km112 : NK 33 km112 := nk_km111.i _ _ _
theorem nk_km113 : NK 33 km113 := nk_km112.i _ _ _
theorem nk_km114 : NK 33 km114 := nk_km113.i _ _ _
theorem nk_km115 : NK 33 km115 := nk_km114.i _ _ _
theorem nk_km116 : NK 33 km116 := nk_km115.i _ _ _
theorem nk_km117 : NK 33 km117 := nk_km116.i _ _ _
theorem nk_km118 : NK 33 km118 := nk_km117.i _ _ _
theorem nk_km119 : NK 33 km119 := nk_km118.i _ _ _
theorem nk_km120 : NK 33 km120 := nk_km119.i _ _ _
theorem nk_km121 : NK 33 km121 := nk_km120.i _ _ _
theorem nk_km122 : NK 33 km122 := nk_km121.i _ _ _
theorem nk_km123 : NK 33 km123 := nk_km122.i _ _ _
theorem nk_km124 : NK 33 km124 := nk_km123.r _ _ _ (by decide)
theorem nk_km125 : NK 33 km125 := nk_km124.nw _
theorem nk_km126 : NK 33 km126 := nk_km125.r _ _ _ (by decide)
theorem cRef_14 {a k : Nat} (hk : 14 ≤ k) : cRef a k = none := by
  unfold cRef
  split <;> first | rfl | (split <;> first | rfl | omega) | skip
  split
  · rw [if_neg (by omega), if_neg (by omega)]
  · rfl
theorem rRef_33 {k : Nat} (hk : 33 ≤ k) : rRef k = none := by
  unfold rRef
  split <;> first | rfl | omega
theorem ini_S : ∀ a, a < 90 → mS (kp12 12) a = cShp a := by decide +kernel
theorem ini_R : ∀ a, a < 90 → ∀ k, k < 14 → (a = 8 → k ≠ 4) → mR (kp12 12) a k = cRef a k := by decide +kernel
theorem ini_R8 : mR (kp12 12) 8 4 = some 2 := by decide +kernel
theorem ini_TC : TC (kp12 12) := ⟨kp_N, ini_S, fun a k ha h8 => by
  rcases Nat.lt_or_ge k 14 with q | q
  · exact ini_R a ha k q h8
  · rw [nk_kp12 12 (by decide) a k q, cRef_14 q], Or.inl ini_R8⟩
theorem ini_TR : TR (klo 16) := by
  obtain ⟨h1, h2, h3, h4⟩ := klo_S 16
  refine ⟨kl_N, fun a ha => ?_, fun k => ?_⟩
  · rw [h1, kk24_S 24]; exact kk24_s a ha
  · rw [h2, kk24_R 24]
    rcases Nat.lt_or_ge k 33 with q | q
    · exact kk24_r k q
    · rw [rRef_33 q]; exact nk_km126 0 k q
theorem ini_c : (∀ t, t < 12 → mI (kp12 12) (54 + 3 * t) 0 = -1 ∧ mI (kp12 12) (54 + 3 * t) 1 = 0) ∧ mI (kp12 12) 2 1 = 0 ∧ mI (kp12 12) 0 10 = 0 ∧ mI (kp12 12) 0 11 = 0 ∧ mI (kp12 12) 0 12 = 0 ∧ mI (kp12 12) 0 13 = -1 ∧ ∀ k, k < 5 → mI (kp12 12) 53 k = 0 := by decide +kernel
theorem ini_r : (∀ t, t < 12 → mI (kk24 24) 1 t = -1) ∧ (∀ t, t < 24 → mI (kk24 24) 2 t = 0) ∧ mI (kk24 24) 0 6 = 0 ∧ mI (kk24 24) 0 7 = 0 ∧ mI (kk24 24) 0 8 = 0 ∧ mI (kk24 24) 0 9 = 0 ∧ mI (kk24 24) 0 10 = -1 ∧ ∀ k, k < 5 → mI (kk24 24) 7 k = 0 := by decide +kernel
theorem ini_n : ∀ k, k < 16 → mL (klo 16) 18 k = tNAMES.getD k 0 := by decide +kernel
theorem ini_Rel : Rel (kp12 12) (klo 16) := by
  obtain ⟨-, -, -, e⟩ := klo_S 16
  obtain ⟨c1, c2, c3, c4, c5, c6, c7⟩ := ini_c
  obtain ⟨r1, r2, r3, r4, r5, r6, r7, r8⟩ := ini_r
  refine ⟨ini_TC, ini_TR, fun t ht => ⟨0, by decide, by rw [e]; exact r2 t ht⟩, ⟨fun _ => 16, fun _ => 0, fun t ht => ⟨Nat.le_refl 16, Nat.zero_le 12, (c1 t ht).1, by rw [e]; exact r1 t ht, (c1 t ht).2, fun q => absurd q (Nat.lt_irrefl 16), fun _ => rfl, fun _ q => absurd q (Nat.lt_irrefl 16), fun i hi => absurd hi (Nat.not_lt_zero i)⟩⟩, ⟨0, 0, by decide, by decide, c2, by rw [e]; exact r3, c3, by rw [e]; exact r4, fun i hi => absurd hi (Nat.not_lt_zero i)⟩, ⟨0, by decide, c4, by rw [e]; exact r5⟩, by rw [e, c5, r6], by rw [e, c6, r7], fun k hk => by rw [e, c7 k hk, r8 k hk], ini_n⟩
