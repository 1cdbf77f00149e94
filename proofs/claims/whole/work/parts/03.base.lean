-- BASE: a typed memory, its picture in the heap, and a judgement AW over frames of values
def gt : List Cond := lw_tbl.filter goodWord
theorem gt_good : ∀ w ∈ gt, (w.onTables && w.keeps) = true ∨ ∃ ty, w = .arrayClass ty := fun w h => good_of_word (List.mem_filter.mp h).2
theorem gt_mem {w : Cond} (i : Nat) (h : lw_tbl[i]? = some w) (g : goodWord w = true) : w ∈ gt := List.mem_filter.mpr ⟨List.mem_of_getElem? h, g⟩
theorem gt_sub {args : Array Value} {s : State} (h : ∀ w ∈ lw_tbl, w.before args s = true) : ∀ w ∈ gt, w.before args s = true := fun w hw => h w (List.mem_filter.mp hw).1
-- the memory: ints, longs, references by cell and place; shapes of cells; how many cells
abbrev xM : Type := (Nat → Nat → Int32) × (Nat → Nat → Int64) × (Nat → Nat → Option Nat) × (Nat → Nat × Nat) × Nat
def mI (M : xM) : Nat → Nat → Int32 := M.1
def mL (M : xM) : Nat → Nat → Int64 := M.2.1
def mR (M : xM) : Nat → Nat → Option Nat := M.2.2.1
def mS (M : xM) : Nat → Nat × Nat := M.2.2.2.1
def mN (M : xM) : Nat := M.2.2.2.2
def xup {α : Type} (f : Nat → Nat → α) (a k : Nat) (v : α) : Nat → Nat → α := fun x y => if x = a then (if y = k then v else f x y) else f x y
def xcp {α : Type} (f : Nat → Nat → α) (a b sp dp n : Nat) : Nat → Nat → α := fun x => if x = b then va_cpy (f a) (f b) sp dp n else f x
def xnw {α : Type} (f : Nat → α) (a : Nat) (v : α) : Nat → α := fun x => if x = a then v else f x
def stI (M : xM) (a k : Nat) (v : Int32) : xM := (xup M.1 a k v, M.2)
def stL (M : xM) (a k : Nat) (v : Int64) : xM := (M.1, xup M.2.1 a k v, M.2.2)
def stR (M : xM) (a k : Nat) (v : Option Nat) : xM := (M.1, M.2.1, xup M.2.2.1 a k v, M.2.2.2)
def cpI (M : xM) (a b sp dp n : Nat) : xM := (xcp M.1 a b sp dp n, M.2)
def cpL (M : xM) (a b sp dp n : Nat) : xM := (M.1, xcp M.2.1 a b sp dp n, M.2.2)
def nwM (M : xM) (sh : Nat × Nat) : xM := (xnw M.1 (mN M) (fun _ => 0), xnw M.2.1 (mN M) (fun _ => 0), xnw M.2.2.1 (mN M) (fun _ => none), xnw M.2.2.2.1 (mN M) sh, mN M + 1)
theorem xup_s {α : Type} (f : Nat → Nat → α) (a k : Nat) (v : α) : xup f a k v a k = v := by simp [xup]
theorem xup_n {α : Type} (f : Nat → Nat → α) {a b : Nat} (k : Nat) (v : α) (h : b ≠ a) : xup f a k v b = f b := by funext y; simp [xup, h]
theorem xup_k {α : Type} (f : Nat → Nat → α) (a : Nat) {k j : Nat} (v : α) (h : j ≠ k) (b : Nat) : xup f a k v b j = f b j := by by_cases hb : b = a <;> simp [xup, h]
-- the context: class numbers, the first address, the region, the statics' addresses, the array classes
abbrev xK : Type := va_G × Nat × (Nat → Prop) × (Nat → Nat) × ClassId × ClassId × ClassId
def kD (K : xK) : va_G := K.1
def kB (K : xK) : Nat := K.2.1
def kA (K : xK) : Nat → Prop := K.2.2.1
def kS (K : xK) : Nat → Nat := K.2.2.2.1
def kI (K : xK) : ClassId := K.2.2.2.2.1
def kJ (K : xK) : ClassId := K.2.2.2.2.2.1
def kR (K : xK) : ClassId := K.2.2.2.2.2.2
def kad (K : xK) (a : Nat) : Nat := if a < 1000000 then kB K + a else kS K (a - 1000000)
def cv (K : xK) (v : Value) : Value := match v with
  | .ref a => .ref (kad K a)
  | v => v
def cvq (K : xK) (q : Nat × Value) : Nat × Value := (q.1, cv K q.2)
theorem cv_cat (K : xK) (v : Value) : (cv K v).category = v.category := by cases v <;> rfl
def xty (ci : Nat) : Nat → FieldType := match ci with
  | 0 => tyX1
  | 1 => tyX2
  | 2 => tyX3
  | 3 => tyX4
  | 4 => tyX5
  | _ => tyX6
def xnf (ci : Nat) : Nat := match ci with
  | 0 => 6
  | 1 => 4
  | 2 => 2
  | 3 => 5
  | 4 => 14
  | _ => 33
def xfv (K : xK) (M : xM) (ty : FieldType) (i k : Nat) : Value := match ty with
  | .int => .int (mI M i k)
  | .long => .long (mL M i k)
  | _ => va_rf ((mR M i k).map (kad K))
def xfs (K : xK) (M : xM) (ci i : Nat) : List Value := (List.range (xnf ci)).map (fun k => xfv K M (xty ci k) i k)
def xcell (K : xK) (M : xM) (i : Nat) : va_E := match (mS M i).1 with
  | 0 => .inr ((mS M i).2, xfs K M (mS M i).2 i)
  | 1 => .inl (kI K, (mS M i).2, .inl (mI M i))
  | 2 => .inl (kJ K, (mS M i).2, .inr (.inl (mL M i)))
  | _ => .inl (kR K, (mS M i).2, .inr (.inr (.inr (.inr (fun k => (mR M i k).map (kad K))))))
theorem xcell0 {K : xK} {M : xM} {i ci : Nat} (h : mS M i = (0, ci)) : xcell K M i = .inr (ci, xfs K M ci i) := by unfold xcell; rw [h]; rfl
theorem xcell1 {K : xK} {M : xM} {i n : Nat} (h : mS M i = (1, n)) : xcell K M i = .inl (kI K, n, .inl (mI M i)) := by unfold xcell; rw [h]; rfl
theorem xcell2 {K : xK} {M : xM} {i n : Nat} (h : mS M i = (2, n)) : xcell K M i = .inl (kJ K, n, .inr (.inl (mL M i))) := by unfold xcell; rw [h]; rfl
theorem xcell3 {K : xK} {M : xM} {i n : Nat} (h : mS M i = (3, n)) : xcell K M i = .inl (kR K, n, .inr (.inr (.inr (.inr (fun k => (mR M i k).map (kad K)))))) := by unfold xcell; rw [h]; rfl
def xws (K : xK) (M : xM) : va_W := (List.range (mN M)).map (fun i => (kB K + i, xcell K M i))
theorem xws_get {K : xK} {M : xM} {i : Nat} (h : i < mN M) : (xws K M)[i]? = some (kB K + i, xcell K M i) := by simp [xws, h]
theorem xws_inv {K : xK} {M : xM} {i : Nat} {q : Nat × va_E} (h : (xws K M)[i]? = some q) : i < mN M ∧ q = (kB K + i, xcell K M i) := by
  have h1 : i < mN M := by
    have := (List.getElem?_eq_some_iff.mp h).1
    simpa [xws] using this
  rw [xws_get h1] at h
  exact ⟨h1, (Option.some.inj h).symm⟩
theorem xws_D {K : xK} {M : xM} (h : ∀ i, i < mN M → kA K (kB K + i)) : va_D (kA K) (xws K M) := by
  refine ⟨fun i j p q hi hj e => ?_, fun k q hk => ?_⟩
  · obtain ⟨-, e1⟩ := xws_inv hi
    obtain ⟨-, e2⟩ := xws_inv hj
    subst e1; subst e2
    have e' : kB K + i = kB K + j := e
    omega
  · obtain ⟨h1, e1⟩ := xws_inv hk
    subst e1
    exact h k h1
-- the statics: where they stand, what they hold
def xsC (j : Nat) : String × String × String := match j with
  | 0 => ("TapePress$Numbers", "WIDER", "[I")
  | 1 => ("TapePress$Numbers", "LEAST", "[J")
  | 2 => ("TapePress$Numbers", "GREATEST", "[J")
  | 3 => ("TapePress$Numbers", "WIDTHS", "[I")
  | _ => ("TapePress", "NAMES", "[J")
def xsT (j : Nat) : FieldType := match j with
  | 0 => .int
  | 3 => .int
  | _ => .long
def tWIDER : List Int32 := [1, 250, 244, 248, 240, 224, 192, 128]
def tWIDTHS : List Int32 := [1, 1, 2, 2, 4, 8, 4, 8]
def tLEAST : List Int64 := [0, -128, 0, -32768, -2147483648, -9223372036854775808]
def tGREATEST : List Int64 := [1, 127, 65535, 32767, 2147483647, 9223372036854775807]
def tNAMES : List Int64 := [998286080, 58136, 64926, 10266284, 6959, 247516, 3435824, 65782373, 187912, 12531637, 1162153, 232272865, 1132, 365869, 43042, 464134]
def xsN (j : Nat) : Nat := match j with
  | 0 => 8
  | 3 => 8
  | 4 => 16
  | _ => 6
def xsF (j : Nat) (k : Nat) : Value := match j with
  | 0 => .int (tWIDER.getD k 0)
  | 1 => .long (tLEAST.getD k 0)
  | 2 => .long (tGREATEST.getD k 0)
  | 3 => .int (tWIDTHS.getD k 0)
  | _ => .long (tNAMES.getD k 0)
def xU (K : xK) (U : State) : Prop := va_K (kD K) vwCl [(kI K, .int), (kJ K, .long), (kR K, .object "TapePress$Row")] U ∧
  (∀ j, j < 5 → va_Z (xsC j).1 (xsC j).2.1 (xsC j).2.2 (.ref (kS K j)) (kA K) U U.heap ∧ va_T (xsT j) (kS K j) (xsN j) (xsF j) (kA K) U U.heap) ∧
  va_Nw (.methodLinkNest RX1 35 yX2_init "TapePress") U ∧ va_Nw (.methodLinkNest RX5 77 yX2_init "TapePress") U ∧ va_AO "TapePress$Row" U
theorem xU.moved {K : xK} {s U : State} (hW : s.WarmedH U.vm) (hh : ∀ a : Nat, a < s.heap.size → ¬ kA K a → U.heap[a]? = s.heap[a]?) (h : xU K s) : xU K U := by
  obtain ⟨h1, h2, h3, h4, h5⟩ := h
  refine ⟨va_K.moved hW.alike h1, fun j hj => ⟨?_, ?_⟩, va_Nw.warmM hW h3, va_Nw.warmM hW h4, va_AO.moved hW.alike h5⟩
  · exact va_Z.moved hW.alike ((h2 j hj).1.kept hh)
  · exact va_T.moved hW.alike ((h2 j hj).2.kept hh)
-- the world
def xP (K : xK) (al : Bool) (M : xM) (H : Heap) : Prop := (∀ i, i < mN M → va_at (kD K) vwCl (kB K + i, xcell K M i) H) ∧ (∀ i, i < mN M → kA K (kB K + i)) ∧ (al = true → H.size = kB K + mN M) ∧ mN M ≤ 1000000
theorem xP.ws {K : xK} {al : Bool} {M : xM} {H : Heap} (h : xP K al M H) : va_P (kD K) vwCl (xws K M) H := by
  intro k q hk
  obtain ⟨h1, e1⟩ := xws_inv hk
  subst e1
  exact h.1 k h1
theorem xP.one {K : xK} {al : Bool} {M : xM} {H : Heap} (h : xP K al M H) {i : Nat} (hi : i < mN M) {e : va_E} (he : xcell K M i = e) : va_P (kD K) vwCl [(kB K + i, e)] H := by
  intro k q hk
  have hz : k < 1 := (List.getElem?_eq_some_iff.mp hk).1
  rw [show k = 0 by omega] at hk
  cases hk
  rw [← he]
  exact h.1 i hi
theorem xP.set {K : xK} {al : Bool} {M M' : xM} {H H1 : Heap} (h : xP K al M H) {i : Nat} (hn : mN M' = mN M) (ho : ∀ j, j ≠ i → xcell K M' j = xcell K M j) (hi : va_at (kD K) vwCl (kB K + i, xcell K M' i) H1) (oq : ∀ q : Nat, q ≠ kB K + i → H1[q]? = H[q]?) (z : al = true → H1.size = H.size) : xP K al M' H1 := by
  obtain ⟨h1, h2, h3, h4⟩ := h
  refine ⟨fun j hj => ?_, by rw [hn]; exact h2, fun ha => by rw [z ha, hn]; exact h3 ha, by rw [hn]; exact h4⟩
  by_cases e : j = i
  · subst e; exact hi
  · rw [ho j e]
    exact (h1 j (by rw [← hn]; exact hj)).kept (oq _ (by omega))
theorem xP.kept {K : xK} {al : Bool} {M : xM} {H H1 : Heap} (h : xP K al M H) (hq : ∀ i, i < mN M → H1[kB K + i]? = H[kB K + i]?) (z : al = true → H1.size = H.size) : xP K al M H1 := ⟨fun i hi => (h.1 i hi).kept (hq i hi), h.2.1, fun ha => by rw [z ha]; exact h.2.2.1 ha, h.2.2.2⟩
-- the frame of a method: name, code, locals, return type, is it a constructor, may it allocate, depth, its cells, its slots
abbrev xF : Type := MethodName × ByteArray × Nat × Option FieldType × Bool × Bool × Nat × Nat × Nat
def rmO (d kc ks : Nat) : Room := { frames := d, cells := kc, slots := ks, locals := 64 * d }
def xRet (cc : ByteArray) (ret : Option FieldType) (pc : Nat) (r : Option Value) : Prop := match r with
  | none => decode cc pc = .ok (.return_, 1) ∧ ret = none
  | some (.int v) => decode cc pc = .ok (.ireturn, 1) ∧ ∃ ty, ret = some ty ∧ narrow ty (.int v) = .int v
  | some (.long _) => decode cc pc = .ok (.lreturn, 1) ∧ ret = some .long
  | some (.double _) => decode cc pc = .ok (.dreturn, 1) ∧ ret = some .double
  | _ => False
def xFix (F : xF) (K : xK) (p : Program) (s : State) (m : MethodId) (args : Array Value) (meth : Method) (c : Code) : Prop :=
  p.tables.exec = Jvm.exec ∧ c.code = F.2.1 ∧ meth.sig.returnType = F.2.2.2.1 ∧ meth.locks = false ∧ s.vm.findClass F.1.cls = some m.cls ∧ (∀ w ∈ gt, w.before args s = true) ∧ c.maxLocals = F.2.2.1 ∧ (F.2.2.2.2.1 = true → meth.name = "<init>") ∧ xU K s ∧ (F.2.2.2.2.2.1 = true → ∀ q, kB K ≤ q → kA K q)
def AW (F : xF) (pc : Nat) (lv : List (Nat × Value)) (st : List Value) (M : xM) (cs ss : Nat) (post : Option Value → xM → Prop) : Prop :=
  ∀ (K : xK) (p : Program) (l : Launch) (e : Env) (s : State) (m : MethodId) (args : Array Value) (below : List Frame) (meth : Method) (c : Code) (H : Heap) (locs : List Loc) (ls : Array Slot) (Q : State → Prop),
    xFix F K p s m args meth c → xP K F.2.2.2.2.2.1 M H → va_S (kA K) s.heap H locs → lv_has ls F.2.2.1 (lv.map (cvq K)) →
    (∀ (r : Option Value) (M' : xM) (H' : Heap) (locs' : List Loc) (cs' ss' pc' : Nat) (ls' : Array Slot), post r M' → xP K F.2.2.2.2.2.1 M' H' → va_S (kA K) s.heap H' locs' → cs' ≤ F.2.2.2.2.2.2.2.1 → ss' ≤ F.2.2.2.2.2.2.2.2 → xRet F.2.1 F.2.2.2.1 pc' r →
      W p l e (rmO F.2.2.2.2.2.2.1 F.2.2.2.2.2.2.2.1 F.2.2.2.2.2.2.2.2) s m args below meth c H' locs' cs' ss' Q (F0 m pc' ls' (r.toList.map (cv K)))) →
    W p l e (rmO F.2.2.2.2.2.2.1 F.2.2.2.2.2.2.2.1 F.2.2.2.2.2.2.2.2) s m args below meth c H locs cs ss Q (F0 m pc ls (st.map (cv K)))
-- a method's contract in these words
def xQc (K : xK) (al : Bool) (post : Option Value → xM → Prop) : Array Value → State → Outcome → State → Prop := fun _ st oc t =>
  (∃ (r : Option Value) (M' : xM), oc = .returned (r.map (cv K)) ∧ post r M' ∧ xP K al M' t.heap) ∧ va_F (kA K) st t
def xPc (K : xK) (al : Bool) (args : List Value) (M : xM) : Array Value → State → Prop := va_Pc (args.map (cv K)) (fun U => xU K U ∧ (al = true → ∀ q, kB K ≤ q → kA K q) ∧ xP K al M U.heap)
def xcode (F : xF) : Cond := .code F.1 F.2.1 F.2.2.1 F.2.2.2.1
def Sp (F : xF) (args : List Value) (M : xM) (post : Option Value → xM → Prop) : Prop :=
  ∀ (K : xK) (l : Launch), Met l F.1 (xcode F :: gt) (rmO F.2.2.2.2.2.2.1 F.2.2.2.2.2.2.2.1 F.2.2.2.2.2.2.2.2) (xPc K F.2.2.2.2.2.1 args M) (xQc K F.2.2.2.2.2.1 post) F.2.2.2.2.2.2.2.1 F.2.2.2.2.2.2.2.2 (kA K)
theorem lv_args_map (K : xK) : ∀ (i : Nat) (vs : List Value), lv_args i (vs.map (cv K)) = (lv_args i vs).map (cvq K)
  | _, [] => rfl
  | i, v :: vs => by
    simp only [List.map_cons, lv_args, cv_cat, cvq]
    rw [lv_args_map K]
theorem lg_sl_len (K : xK) : ∀ (vs : List Value), (lg_sl (vs.map (cv K))).length = (lg_sl vs).length
  | [] => rfl
  | v :: vs => by
    have ih := lg_sl_len K vs
    simp only [lg_sl, List.map_cons, List.flatMap_cons, List.length_append, cv_cat] at ih ⊢
    rw [ih]
    congr 1
    split <;> rfl
theorem Sp.of {F : xF} {args : List Value} {M : xM} {post : Option Value → xM → Prop} (hy : plainName F.1.cls = true) (hn : (lg_sl args).length ≤ F.2.2.1) (hi : F.2.2.2.2.1 = true → F.1.name = "<init>") (h : AW F 0 (lv_args 0 args) [] M 0 0 post) : Sp F args M post := by
  intro K l
  refine Met.ofW (cc := F.2.1) (maxL := F.2.2.1) (ret := F.2.2.2.1) hy rfl ?_
  intro p e s m a below meth c s₁ B hml hv
  obtain ⟨rfl, hU, hal, hP⟩ := hv
  have hts := atoms_spec (ws := xcode F :: gt) B.pre
  have hname := (name_of_methodNamed B.named B.method).1
  have hl := lv_entry (args.map (cv K)) (n := F.2.2.1) (by rw [lg_sl_len]; exact hn)
  rw [lg_entry_eq]
  rw [lv_args_map] at hl
  refine h K p l e s m _ below meth c s.heap [] _ _ ⟨B.exec, B.bytes, B.returns, B.notSynchronized, findClass_of_methodNamed B.named, fun w hw => hts w (List.mem_cons_of_mem _ hw), hml, fun z => hname.trans (hi z), hU, hal⟩ hP va_S.rf hl ?_
  intro r M' H' locs' cs' ss' pc' ls' hpost hP' hS' hc hs hr
  refine W.widen hc hs ?_
  have hq : ∀ (t : State), t.heap = H' → xQc K F.2.2.2.2.2.1 post (args.map (cv K)).toArray s (.returned (r.map (cv K))) t := fun t ht => ⟨⟨r, M', rfl, hpost, by rw [ht]; exact hP'⟩, hS'.F ht⟩
  have hlk := B.notSynchronized
  cases r with
  | none => exact W.vret B.exec B.bytes (B.returns.trans hr.2) (fun t ht _ => hq t ht) hS'.2.2 hr.1 hlk
  | some v =>
    cases v with
    | int x =>
      obtain ⟨h1, ty, h2, h3⟩ := hr
      exact W.zret B.exec B.bytes (B.returns.trans h2) h3 (fun t ht _ => hq t ht) hS'.2.2 h1 hlk
    | long x => exact W.lret B.exec B.bytes (B.returns.trans hr.2) (fun t ht _ => hq t ht) hS'.2.2 hr.1 hlk
    | double x => exact W.dret B.exec B.bytes (B.returns.trans hr.2) (fun t ht _ => hq t ht) hS'.2.2 hr.1 hlk
    | _ => exact hr.elim
