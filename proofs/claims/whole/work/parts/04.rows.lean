section RW
variable {F : xF} {pc : Nat} {lv : List (Nat × Value)} {st : List Value} {M : xM} {cs ss : Nat} {post : Option Value → xM → Prop}
theorem lv_m {K : xK} {ls : Array Slot} {n : Nat} (hl : lv_has ls n (lv.map (cvq K))) {k i : Nat} {v : Value} (h : lv[k]? = some (i, v)) : ls[i]? = some (.val (cv K v)) := lv_at hl k (by rw [List.getElem?_map, h]; rfl)
theorem lv_f1 {K : xK} {lv' : List (Nat × Value)} {i : Nat} {v : Value} (h : (i, v) :: lv.filter (fun q => !(q.1 == i) && !(q.1 + 1 == i && q.2.category == 2)) = lv') : (i, cv K v) :: (lv.map (cvq K)).filter (fun q => !(q.1 == i) && !(q.1 + 1 == i && q.2.category == 2)) = lv'.map (cvq K) := by
  subst h
  rw [List.filter_map]
  have e : ((fun q : Nat × Value => !(q.1 == i) && !(q.1 + 1 == i && q.2.category == 2)) ∘ cvq K) = (fun q => !(q.1 == i) && !(q.1 + 1 == i && q.2.category == 2)) := by
    funext q
    simp only [Function.comp, cvq, cv_cat]
  rw [e]
  rfl
theorem lv_f2 {K : xK} {lv' : List (Nat × Value)} {i : Nat} {v : Value} (h : (i, v) :: lv.filter (fun q => !(q.1 == i) && (!(q.1 == i + 1) && !(q.1 + 1 == i && q.2.category == 2))) = lv') : (i, cv K v) :: (lv.map (cvq K)).filter (fun q => !(q.1 == i) && (!(q.1 == i + 1) && !(q.1 + 1 == i && q.2.category == 2))) = lv'.map (cvq K) := by
  subst h
  rw [List.filter_map]
  have e : ((fun q : Nat × Value => !(q.1 == i) && (!(q.1 == i + 1) && !(q.1 + 1 == i && q.2.category == 2))) ∘ cvq K) = (fun q => !(q.1 == i) && (!(q.1 == i + 1) && !(q.1 + 1 == i && q.2.category == 2))) := by
    funext q
    simp only [Function.comp, cvq, cv_cat]
  rw [e]
  rfl
theorem aw_iadd {x y : Int32} (hd : decode F.2.1 pc = .ok (.iadd, 1)) (k : AW F (pc + 1) lv (.int (x + y) :: st) M cs ss post) : AW F pc lv (.int y :: .int x :: st) M cs ss post := by
  intro K p l e s m args below meth c H locs ls Q hF hP hS hl hk
  exact lv_iadd hF.1 hF.2.1 hd (k K p l e s m args below meth c H locs ls Q hF hP hS hl hk)
theorem aw_isub {x y : Int32} (hd : decode F.2.1 pc = .ok (.isub, 1)) (k : AW F (pc + 1) lv (.int (x - y) :: st) M cs ss post) : AW F pc lv (.int y :: .int x :: st) M cs ss post := by
  intro K p l e s m args below meth c H locs ls Q hF hP hS hl hk
  exact lv_isub hF.1 hF.2.1 hd (k K p l e s m args below meth c H locs ls Q hF hP hS hl hk)
theorem aw_imul {x y : Int32} (hd : decode F.2.1 pc = .ok (.imul, 1)) (k : AW F (pc + 1) lv (.int (x * y) :: st) M cs ss post) : AW F pc lv (.int y :: .int x :: st) M cs ss post := by
  intro K p l e s m args below meth c H locs ls Q hF hP hS hl hk
  exact lv_imul hF.1 hF.2.1 hd (k K p l e s m args below meth c H locs ls Q hF hP hS hl hk)
theorem aw_iand {x y : Int32} (hd : decode F.2.1 pc = .ok (.iand, 1)) (k : AW F (pc + 1) lv (.int (x &&& y) :: st) M cs ss post) : AW F pc lv (.int y :: .int x :: st) M cs ss post := by
  intro K p l e s m args below meth c H locs ls Q hF hP hS hl hk
  exact lv_iand hF.1 hF.2.1 hd (k K p l e s m args below meth c H locs ls Q hF hP hS hl hk)
theorem aw_ior {x y : Int32} (hd : decode F.2.1 pc = .ok (.ior, 1)) (k : AW F (pc + 1) lv (.int (x ||| y) :: st) M cs ss post) : AW F pc lv (.int y :: .int x :: st) M cs ss post := by
  intro K p l e s m args below meth c H locs ls Q hF hP hS hl hk
  exact lv_ior hF.1 hF.2.1 hd (k K p l e s m args below meth c H locs ls Q hF hP hS hl hk)
theorem aw_ixor {x y : Int32} (hd : decode F.2.1 pc = .ok (.ixor, 1)) (k : AW F (pc + 1) lv (.int (x ^^^ y) :: st) M cs ss post) : AW F pc lv (.int y :: .int x :: st) M cs ss post := by
  intro K p l e s m args below meth c H locs ls Q hF hP hS hl hk
  exact lv_ixor hF.1 hF.2.1 hd (k K p l e s m args below meth c H locs ls Q hF hP hS hl hk)
theorem aw_ishl {x y : Int32} (hd : decode F.2.1 pc = .ok (.ishl, 1)) (k : AW F (pc + 1) lv (.int (x <<< (y &&& 31)) :: st) M cs ss post) : AW F pc lv (.int y :: .int x :: st) M cs ss post := by
  intro K p l e s m args below meth c H locs ls Q hF hP hS hl hk
  exact lv_ishl hF.1 hF.2.1 hd (k K p l e s m args below meth c H locs ls Q hF hP hS hl hk)
theorem aw_ishr {x y : Int32} (hd : decode F.2.1 pc = .ok (.ishr, 1)) (k : AW F (pc + 1) lv (.int (x >>> (y &&& 31)) :: st) M cs ss post) : AW F pc lv (.int y :: .int x :: st) M cs ss post := by
  intro K p l e s m args below meth c H locs ls Q hF hP hS hl hk
  exact lv_ishr hF.1 hF.2.1 hd (k K p l e s m args below meth c H locs ls Q hF hP hS hl hk)
theorem aw_irem {x y : Int32} (hd : decode F.2.1 pc = .ok (.irem, 1)) (hne : ¬ y = 0) (k : AW F (pc + 1) lv (.int (x - x / y * y) :: st) M cs ss post) : AW F pc lv (.int y :: .int x :: st) M cs ss post := by
  intro K p l e s m args below meth c H locs ls Q hF hP hS hl hk
  exact lv_irem hF.1 hF.2.1 hd hne (k K p l e s m args below meth c H locs ls Q hF hP hS hl hk)
theorem aw_idiv {x y : Int32} (hd : decode F.2.1 pc = .ok (.idiv, 1)) (hne : ¬ y = 0) (k : AW F (pc + 1) lv (.int (x / y) :: st) M cs ss post) : AW F pc lv (.int y :: .int x :: st) M cs ss post := by
  intro K p l e s m args below meth c H locs ls Q hF hP hS hl hk
  exact lv_idiv hF.1 hF.2.1 hd hne (k K p l e s m args below meth c H locs ls Q hF hP hS hl hk)
theorem aw_ladd {x y : Int64} (hd : decode F.2.1 pc = .ok (.ladd, 1)) (k : AW F (pc + 1) lv (.long (x + y) :: st) M cs ss post) : AW F pc lv (.long y :: .long x :: st) M cs ss post := by
  intro K p l e s m args below meth c H locs ls Q hF hP hS hl hk
  exact lv_ladd hF.1 hF.2.1 hd (k K p l e s m args below meth c H locs ls Q hF hP hS hl hk)
theorem aw_lsub {x y : Int64} (hd : decode F.2.1 pc = .ok (.lsub, 1)) (k : AW F (pc + 1) lv (.long (x - y) :: st) M cs ss post) : AW F pc lv (.long y :: .long x :: st) M cs ss post := by
  intro K p l e s m args below meth c H locs ls Q hF hP hS hl hk
  exact lv_lsub hF.1 hF.2.1 hd (k K p l e s m args below meth c H locs ls Q hF hP hS hl hk)
theorem aw_lmul {x y : Int64} (hd : decode F.2.1 pc = .ok (.lmul, 1)) (k : AW F (pc + 1) lv (.long (x * y) :: st) M cs ss post) : AW F pc lv (.long y :: .long x :: st) M cs ss post := by
  intro K p l e s m args below meth c H locs ls Q hF hP hS hl hk
  exact lv_lmul hF.1 hF.2.1 hd (k K p l e s m args below meth c H locs ls Q hF hP hS hl hk)
theorem aw_land {x y : Int64} (hd : decode F.2.1 pc = .ok (.land, 1)) (k : AW F (pc + 1) lv (.long (x &&& y) :: st) M cs ss post) : AW F pc lv (.long y :: .long x :: st) M cs ss post := by
  intro K p l e s m args below meth c H locs ls Q hF hP hS hl hk
  exact lv_land hF.1 hF.2.1 hd (k K p l e s m args below meth c H locs ls Q hF hP hS hl hk)
theorem aw_lor {x y : Int64} (hd : decode F.2.1 pc = .ok (.lor, 1)) (k : AW F (pc + 1) lv (.long (x ||| y) :: st) M cs ss post) : AW F pc lv (.long y :: .long x :: st) M cs ss post := by
  intro K p l e s m args below meth c H locs ls Q hF hP hS hl hk
  exact lv_lor hF.1 hF.2.1 hd (k K p l e s m args below meth c H locs ls Q hF hP hS hl hk)
theorem aw_lxor {x y : Int64} (hd : decode F.2.1 pc = .ok (.lxor, 1)) (k : AW F (pc + 1) lv (.long (x ^^^ y) :: st) M cs ss post) : AW F pc lv (.long y :: .long x :: st) M cs ss post := by
  intro K p l e s m args below meth c H locs ls Q hF hP hS hl hk
  exact lv_lxor hF.1 hF.2.1 hd (k K p l e s m args below meth c H locs ls Q hF hP hS hl hk)
theorem aw_lrem {x y : Int64} (hd : decode F.2.1 pc = .ok (.lrem, 1)) (hne : ¬ y = 0) (k : AW F (pc + 1) lv (.long (x - x / y * y) :: st) M cs ss post) : AW F pc lv (.long y :: .long x :: st) M cs ss post := by
  intro K p l e s m args below meth c H locs ls Q hF hP hS hl hk
  exact lv_lrem hF.1 hF.2.1 hd hne (k K p l e s m args below meth c H locs ls Q hF hP hS hl hk)
theorem aw_ldiv {x y : Int64} (hd : decode F.2.1 pc = .ok (.ldiv, 1)) (hne : ¬ y = 0) (k : AW F (pc + 1) lv (.long (x / y) :: st) M cs ss post) : AW F pc lv (.long y :: .long x :: st) M cs ss post := by
  intro K p l e s m args below meth c H locs ls Q hF hP hS hl hk
  exact lv_ldiv hF.1 hF.2.1 hd hne (k K p l e s m args below meth c H locs ls Q hF hP hS hl hk)
theorem aw_ineg {x : Int32} (hd : decode F.2.1 pc = .ok (.ineg, 1)) (k : AW F (pc + 1) lv (.int (-x) :: st) M cs ss post) : AW F pc lv (.int x :: st) M cs ss post := by
  intro K p l e s m args below meth c H locs ls Q hF hP hS hl hk
  exact lv_ineg hF.1 hF.2.1 hd (k K p l e s m args below meth c H locs ls Q hF hP hS hl hk)
theorem aw_lneg {x : Int64} (hd : decode F.2.1 pc = .ok (.lneg, 1)) (k : AW F (pc + 1) lv (.long (-x) :: st) M cs ss post) : AW F pc lv (.long x :: st) M cs ss post := by
  intro K p l e s m args below meth c H locs ls Q hF hP hS hl hk
  exact lv_lneg hF.1 hF.2.1 hd (k K p l e s m args below meth c H locs ls Q hF hP hS hl hk)
theorem aw_iushr {x y : Int32} (hd : decode F.2.1 pc = .ok (.iushr, 1)) (k : AW F (pc + 1) lv (.int (x.toUInt32 >>> (y.toUInt32 &&& Int32.toUInt32 31)).toInt32 :: st) M cs ss post) : AW F pc lv (.int y :: .int x :: st) M cs ss post := by
  intro K p l e s m args below meth c H locs ls Q hF hP hS hl hk
  exact lv_iushr hF.1 hF.2.1 hd rfl (k K p l e s m args below meth c H locs ls Q hF hP hS hl hk)
theorem aw_lushr {x : Int64} {y : Int32} (hd : decode F.2.1 pc = .ok (.lushr, 1)) (k : AW F (pc + 1) lv (.long (x.toUInt64 >>> (y.toInt64.toUInt64 &&& Int64.toUInt64 63)).toInt64 :: st) M cs ss post) : AW F pc lv (.int y :: .long x :: st) M cs ss post := by
  intro K p l e s m args below meth c H locs ls Q hF hP hS hl hk
  exact lv_lushr hF.1 hF.2.1 hd rfl (k K p l e s m args below meth c H locs ls Q hF hP hS hl hk)
theorem aw_lshl {x : Int64} {y : Int32} (hd : decode F.2.1 pc = .ok (.lshl, 1)) (k : AW F (pc + 1) lv (.long (x <<< (y.toInt64 &&& 63)) :: st) M cs ss post) : AW F pc lv (.int y :: .long x :: st) M cs ss post := by
  intro K p l e s m args below meth c H locs ls Q hF hP hS hl hk
  exact lv_lshl hF.1 hF.2.1 hd rfl (k K p l e s m args below meth c H locs ls Q hF hP hS hl hk)
theorem aw_lshr {x : Int64} {y : Int32} (hd : decode F.2.1 pc = .ok (.lshr, 1)) (k : AW F (pc + 1) lv (.long (x >>> (y.toInt64 &&& 63)) :: st) M cs ss post) : AW F pc lv (.int y :: .long x :: st) M cs ss post := by
  intro K p l e s m args below meth c H locs ls Q hF hP hS hl hk
  exact lv_lshr hF.1 hF.2.1 hd rfl (k K p l e s m args below meth c H locs ls Q hF hP hS hl hk)
theorem aw_i2l {x : Int32} (hd : decode F.2.1 pc = .ok (.i2l, 1)) (k : AW F (pc + 1) lv (.long x.toInt64 :: st) M cs ss post) : AW F pc lv (.int x :: st) M cs ss post := by
  intro K p l e s m args below meth c H locs ls Q hF hP hS hl hk
  exact lv_i2l hF.1 hF.2.1 hd rfl (k K p l e s m args below meth c H locs ls Q hF hP hS hl hk)
theorem aw_l2i {x : Int64} (hd : decode F.2.1 pc = .ok (.l2i, 1)) (k : AW F (pc + 1) lv (.int x.toInt32 :: st) M cs ss post) : AW F pc lv (.long x :: st) M cs ss post := by
  intro K p l e s m args below meth c H locs ls Q hF hP hS hl hk
  exact lv_l2i hF.1 hF.2.1 hd rfl (k K p l e s m args below meth c H locs ls Q hF hP hS hl hk)
theorem aw_l2d {x : Int64} (hd : decode F.2.1 pc = .ok (.l2d, 1)) (k : AW F (pc + 1) lv (.double (FP.l2d x) :: st) M cs ss post) : AW F pc lv (.long x :: st) M cs ss post := by
  intro K p l e s m args below meth c H locs ls Q hF hP hS hl hk
  exact lv_l2d hF.1 hF.2.1 hd (k K p l e s m args below meth c H locs ls Q hF hP hS hl hk)
theorem aw_l2f {x : Int64} (hd : decode F.2.1 pc = .ok (.l2f, 1)) (k : AW F (pc + 1) lv (.float (FP.l2f x) :: st) M cs ss post) : AW F pc lv (.long x :: st) M cs ss post := by
  intro K p l e s m args below meth c H locs ls Q hF hP hS hl hk
  exact lv_l2f hF.1 hF.2.1 hd (k K p l e s m args below meth c H locs ls Q hF hP hS hl hk)
theorem aw_d2l {x : UInt64} (hd : decode F.2.1 pc = .ok (.d2l, 1)) (k : AW F (pc + 1) lv (.long (FP.d2l x) :: st) M cs ss post) : AW F pc lv (.double x :: st) M cs ss post := by
  intro K p l e s m args below meth c H locs ls Q hF hP hS hl hk
  exact lv_d2l hF.1 hF.2.1 hd (k K p l e s m args below meth c H locs ls Q hF hP hS hl hk)
theorem aw_f2d {x : UInt32} (hd : decode F.2.1 pc = .ok (.f2d, 1)) (hne : vf_n64 (FP.f2d x)) (k : AW F (pc + 1) lv (.double (FP.f2d x) :: st) M cs ss post) : AW F pc lv (.float x :: st) M cs ss post := by
  intro K p l e s m args below meth c H locs ls Q hF hP hS hl hk
  exact lv_f2d hF.1 hF.2.1 hd hne (k K p l e s m args below meth c H locs ls Q hF hP hS hl hk)
theorem aw_d2f {x : UInt64} (hd : decode F.2.1 pc = .ok (.d2f, 1)) (hne : vf_n32 (FP.d2f x)) (k : AW F (pc + 1) lv (.float (FP.d2f x) :: st) M cs ss post) : AW F pc lv (.double x :: st) M cs ss post := by
  intro K p l e s m args below meth c H locs ls Q hF hP hS hl hk
  exact lv_d2f hF.1 hF.2.1 hd hne (k K p l e s m args below meth c H locs ls Q hF hP hS hl hk)
theorem aw_dadd {x y : UInt64} (hd : decode F.2.1 pc = .ok (.dadd, 1)) (hne : vf_n64 (FP.dadd x y)) (k : AW F (pc + 1) lv (.double (FP.dadd x y) :: st) M cs ss post) : AW F pc lv (.double y :: .double x :: st) M cs ss post := by
  intro K p l e s m args below meth c H locs ls Q hF hP hS hl hk
  exact lv_dadd hF.1 hF.2.1 hd hne (k K p l e s m args below meth c H locs ls Q hF hP hS hl hk)
theorem aw_dsub {x y : UInt64} (hd : decode F.2.1 pc = .ok (.dsub, 1)) (hne : vf_n64 (FP.dsub x y)) (k : AW F (pc + 1) lv (.double (FP.dsub x y) :: st) M cs ss post) : AW F pc lv (.double y :: .double x :: st) M cs ss post := by
  intro K p l e s m args below meth c H locs ls Q hF hP hS hl hk
  exact lv_dsub hF.1 hF.2.1 hd hne (k K p l e s m args below meth c H locs ls Q hF hP hS hl hk)
theorem aw_dmul {x y : UInt64} (hd : decode F.2.1 pc = .ok (.dmul, 1)) (hne : vf_n64 (FP.dmul x y)) (k : AW F (pc + 1) lv (.double (FP.dmul x y) :: st) M cs ss post) : AW F pc lv (.double y :: .double x :: st) M cs ss post := by
  intro K p l e s m args below meth c H locs ls Q hF hP hS hl hk
  exact lv_dmul hF.1 hF.2.1 hd hne (k K p l e s m args below meth c H locs ls Q hF hP hS hl hk)
theorem aw_ddiv {x y : UInt64} (hd : decode F.2.1 pc = .ok (.ddiv, 1)) (hne : vf_n64 (FP.ddiv x y)) (k : AW F (pc + 1) lv (.double (FP.ddiv x y) :: st) M cs ss post) : AW F pc lv (.double y :: .double x :: st) M cs ss post := by
  intro K p l e s m args below meth c H locs ls Q hF hP hS hl hk
  exact lv_ddiv hF.1 hF.2.1 hd hne (k K p l e s m args below meth c H locs ls Q hF hP hS hl hk)
theorem aw_drem {x y : UInt64} (hd : decode F.2.1 pc = .ok (.drem, 1)) (hne : vf_n64 (FP.drem x y)) (k : AW F (pc + 1) lv (.double (FP.drem x y) :: st) M cs ss post) : AW F pc lv (.double y :: .double x :: st) M cs ss post := by
  intro K p l e s m args below meth c H locs ls Q hF hP hS hl hk
  exact lv_drem hF.1 hF.2.1 hd hne (k K p l e s m args below meth c H locs ls Q hF hP hS hl hk)
theorem aw_fadd {x y : UInt32} (hd : decode F.2.1 pc = .ok (.fadd, 1)) (hne : vf_n32 (FP.fadd x y)) (k : AW F (pc + 1) lv (.float (FP.fadd x y) :: st) M cs ss post) : AW F pc lv (.float y :: .float x :: st) M cs ss post := by
  intro K p l e s m args below meth c H locs ls Q hF hP hS hl hk
  exact lv_fadd hF.1 hF.2.1 hd hne (k K p l e s m args below meth c H locs ls Q hF hP hS hl hk)
theorem aw_fmul {x y : UInt32} (hd : decode F.2.1 pc = .ok (.fmul, 1)) (hne : vf_n32 (FP.fmul x y)) (k : AW F (pc + 1) lv (.float (FP.fmul x y) :: st) M cs ss post) : AW F pc lv (.float y :: .float x :: st) M cs ss post := by
  intro K p l e s m args below meth c H locs ls Q hF hP hS hl hk
  exact lv_fmul hF.1 hF.2.1 hd hne (k K p l e s m args below meth c H locs ls Q hF hP hS hl hk)
theorem aw_dneg {x : UInt64} (hd : decode F.2.1 pc = .ok (.dneg, 1)) (k : AW F (pc + 1) lv (.double (FP.dneg x) :: st) M cs ss post) : AW F pc lv (.double x :: st) M cs ss post := by
  intro K p l e s m args below meth c H locs ls Q hF hP hS hl hk
  exact lv_dneg hF.1 hF.2.1 hd (k K p l e s m args below meth c H locs ls Q hF hP hS hl hk)
theorem aw_dcmp {x y : UInt64} {op : CmpOp} (hd : decode F.2.1 pc = .ok (.dcmp op, 1)) (k : AW F (pc + 1) lv (.int (Op.cmpValue (FP.dcmp x y) op) :: st) M cs ss post) : AW F pc lv (.double y :: .double x :: st) M cs ss post := by
  intro K p l e s m args below meth c H locs ls Q hF hP hS hl hk
  exact lv_dcmp hF.1 hF.2.1 hd (k K p l e s m args below meth c H locs ls Q hF hP hS hl hk)
theorem aw_lcmp {x y : Int64} (hd : decode F.2.1 pc = .ok (.lcmp, 1)) (k : AW F (pc + 1) lv (.int (lg_cmp x y) :: st) M cs ss post) : AW F pc lv (.long y :: .long x :: st) M cs ss post := by
  intro K p l e s m args below meth c H locs ls Q hF hP hS hl hk
  exact W.lcmp hF.1 hF.2.1 hd (k K p l e s m args below meth c H locs ls Q hF hP hS hl hk)
theorem aw_iconst {n : Int} {v : Int32} (hd : decode F.2.1 pc = .ok (.iconst n, 1)) (hv : Int32.ofInt n = v) (k : AW F (pc + 1) lv (.int v :: st) M cs ss post) : AW F pc lv (st) M cs ss post := by
  intro K p l e s m args below meth c H locs ls Q hF hP hS hl hk
  exact lv_iconst hF.1 hF.2.1 hd hv (k K p l e s m args below meth c H locs ls Q hF hP hS hl hk)
theorem aw_bipush {n : Int} {v : Int32} (hd : decode F.2.1 pc = .ok (.bipush n, 2)) (hv : (Int8.ofInt n).toInt32 = v) (k : AW F (pc + 2) lv (.int v :: st) M cs ss post) : AW F pc lv (st) M cs ss post := by
  intro K p l e s m args below meth c H locs ls Q hF hP hS hl hk
  exact lv_bipush hF.1 hF.2.1 hd hv (k K p l e s m args below meth c H locs ls Q hF hP hS hl hk)
theorem aw_sipush {n : Int} {v : Int32} (hd : decode F.2.1 pc = .ok (.sipush n, 3)) (hv : (Int16.ofInt n).toInt32 = v) (k : AW F (pc + 3) lv (.int v :: st) M cs ss post) : AW F pc lv (st) M cs ss post := by
  intro K p l e s m args below meth c H locs ls Q hF hP hS hl hk
  exact lv_sipush hF.1 hF.2.1 hd hv (k K p l e s m args below meth c H locs ls Q hF hP hS hl hk)
theorem aw_lconst {n : Fin 2} {v : Int64} (hd : decode F.2.1 pc = .ok (.lconst n, 1)) (hv : Int64.ofNat (n : Nat) = v) (k : AW F (pc + 1) lv (.long v :: st) M cs ss post) : AW F pc lv (st) M cs ss post := by
  intro K p l e s m args below meth c H locs ls Q hF hP hS hl hk
  exact lv_lconst hF.1 hF.2.1 hd hv (k K p l e s m args below meth c H locs ls Q hF hP hS hl hk)
theorem aw_dconst0  (hd : decode F.2.1 pc = .ok (.dconst 0, 1)) (k : AW F (pc + 1) lv (.double FP.dconst0 :: st) M cs ss post) : AW F pc lv (st) M cs ss post := by
  intro K p l e s m args below meth c H locs ls Q hF hP hS hl hk
  exact lv_dconst0 hF.1 hF.2.1 hd (k K p l e s m args below meth c H locs ls Q hF hP hS hl hk)
theorem aw_dconst1  (hd : decode F.2.1 pc = .ok (.dconst 1, 1)) (k : AW F (pc + 1) lv (.double FP.dconst1 :: st) M cs ss post) : AW F pc lv (st) M cs ss post := by
  intro K p l e s m args below meth c H locs ls Q hF hP hS hl hk
  exact lv_dconst1 hF.1 hF.2.1 hd (k K p l e s m args below meth c H locs ls Q hF hP hS hl hk)
theorem aw_fconst0  (hd : decode F.2.1 pc = .ok (.fconst 0, 1)) (k : AW F (pc + 1) lv (.float FP.fconst0 :: st) M cs ss post) : AW F pc lv (st) M cs ss post := by
  intro K p l e s m args below meth c H locs ls Q hF hP hS hl hk
  exact lv_fconst0 hF.1 hF.2.1 hd (k K p l e s m args below meth c H locs ls Q hF hP hS hl hk)
theorem aw_ldc {i : Nat} {v : Int32} (hd : decode F.2.1 pc = .ok (.ldc i, 2)) (hw : Cond.constant F.1.cls i v ∈ gt) (k : AW F (pc + 2) lv (.int v :: st) M cs ss post) : AW F pc lv st M cs ss post := by
  intro K p l e s m args below meth c H locs ls Q hF hP hS hl hk
  exact lv_ldc hF.1 hF.2.1 hF.2.2.2.2.1 (hF.2.2.2.2.2.1 _ hw) hd (k K p l e s m args below meth c H locs ls Q hF hP hS hl hk)
theorem aw_ldcf {i : Nat} {v : UInt32} (hd : decode F.2.1 pc = .ok (.ldc i, 2)) (hw : Cond.constantFloat F.1.cls i v ∈ gt) (k : AW F (pc + 2) lv (.float v :: st) M cs ss post) : AW F pc lv st M cs ss post := by
  intro K p l e s m args below meth c H locs ls Q hF hP hS hl hk
  exact lv_ldcf hF.1 hF.2.1 hF.2.2.2.2.1 (hF.2.2.2.2.2.1 _ hw) hd (k K p l e s m args below meth c H locs ls Q hF hP hS hl hk)
theorem aw_ldc2 {i : Nat} {v : Int64} (hd : decode F.2.1 pc = .ok (.ldc2_w i, 3)) (hw : Cond.constantLong F.1.cls i v ∈ gt) (k : AW F (pc + 3) lv (.long v :: st) M cs ss post) : AW F pc lv st M cs ss post := by
  intro K p l e s m args below meth c H locs ls Q hF hP hS hl hk
  exact lv_ldc2 hF.1 hF.2.1 hF.2.2.2.2.1 (hF.2.2.2.2.2.1 _ hw) hd (k K p l e s m args below meth c H locs ls Q hF hP hS hl hk)
theorem aw_ldc2d {i : Nat} {v : UInt64} (hd : decode F.2.1 pc = .ok (.ldc2_w i, 3)) (hw : Cond.constantDouble F.1.cls i v ∈ gt) (k : AW F (pc + 3) lv (.double v :: st) M cs ss post) : AW F pc lv st M cs ss post := by
  intro K p l e s m args below meth c H locs ls Q hF hP hS hl hk
  exact lv_ldc2d hF.1 hF.2.1 hF.2.2.2.2.1 (hF.2.2.2.2.2.1 _ hw) hd (k K p l e s m args below meth c H locs ls Q hF hP hS hl hk)
theorem aw_iload_n {n : Fin 4} {x : Int32} (hd : decode F.2.1 pc = .ok (.iload_n n, 1)) (j : Nat) (h : lv[j]? = some (n.val, .int x)) (k : AW F (pc + 1) lv (.int x :: st) M cs ss post) : AW F pc lv st M cs ss post := by
  intro K p l e s m args below meth c H locs ls Q hF hP hS hl hk
  exact lv_iload_n hF.1 hF.2.1 hd rfl (lv_m hl h) (k K p l e s m args below meth c H locs ls Q hF hP hS hl hk)
theorem aw_iload {i : Nat} {x : Int32} (hd : decode F.2.1 pc = .ok (.iload i, 2)) (j : Nat) (h : lv[j]? = some (i, .int x)) (k : AW F (pc + 2) lv (.int x :: st) M cs ss post) : AW F pc lv st M cs ss post := by
  intro K p l e s m args below meth c H locs ls Q hF hP hS hl hk
  exact lv_iload hF.1 hF.2.1 hd (lv_m hl h) (k K p l e s m args below meth c H locs ls Q hF hP hS hl hk)
theorem aw_lload_n {n : Fin 4} {x : Int64} (hd : decode F.2.1 pc = .ok (.lload_n n, 1)) (j : Nat) (h : lv[j]? = some (n.val, .long x)) (k : AW F (pc + 1) lv (.long x :: st) M cs ss post) : AW F pc lv st M cs ss post := by
  intro K p l e s m args below meth c H locs ls Q hF hP hS hl hk
  exact lv_lload_n hF.1 hF.2.1 hd rfl (lv_m hl h) (k K p l e s m args below meth c H locs ls Q hF hP hS hl hk)
theorem aw_lload {i : Nat} {x : Int64} (hd : decode F.2.1 pc = .ok (.lload i, 2)) (j : Nat) (h : lv[j]? = some (i, .long x)) (k : AW F (pc + 2) lv (.long x :: st) M cs ss post) : AW F pc lv st M cs ss post := by
  intro K p l e s m args below meth c H locs ls Q hF hP hS hl hk
  exact lv_lload hF.1 hF.2.1 hd (lv_m hl h) (k K p l e s m args below meth c H locs ls Q hF hP hS hl hk)
theorem aw_fload_n {n : Fin 4} {x : UInt32} (hd : decode F.2.1 pc = .ok (.fload_n n, 1)) (j : Nat) (h : lv[j]? = some (n.val, .float x)) (k : AW F (pc + 1) lv (.float x :: st) M cs ss post) : AW F pc lv st M cs ss post := by
  intro K p l e s m args below meth c H locs ls Q hF hP hS hl hk
  exact lv_fload_n hF.1 hF.2.1 hd rfl (lv_m hl h) (k K p l e s m args below meth c H locs ls Q hF hP hS hl hk)
theorem aw_fload {i : Nat} {x : UInt32} (hd : decode F.2.1 pc = .ok (.fload i, 2)) (j : Nat) (h : lv[j]? = some (i, .float x)) (k : AW F (pc + 2) lv (.float x :: st) M cs ss post) : AW F pc lv st M cs ss post := by
  intro K p l e s m args below meth c H locs ls Q hF hP hS hl hk
  exact lv_fload hF.1 hF.2.1 hd (lv_m hl h) (k K p l e s m args below meth c H locs ls Q hF hP hS hl hk)
theorem aw_dload_n {n : Fin 4} {x : UInt64} (hd : decode F.2.1 pc = .ok (.dload_n n, 1)) (j : Nat) (h : lv[j]? = some (n.val, .double x)) (k : AW F (pc + 1) lv (.double x :: st) M cs ss post) : AW F pc lv st M cs ss post := by
  intro K p l e s m args below meth c H locs ls Q hF hP hS hl hk
  exact lv_dload_n hF.1 hF.2.1 hd rfl (lv_m hl h) (k K p l e s m args below meth c H locs ls Q hF hP hS hl hk)
theorem aw_dload {i : Nat} {x : UInt64} (hd : decode F.2.1 pc = .ok (.dload i, 2)) (j : Nat) (h : lv[j]? = some (i, .double x)) (k : AW F (pc + 2) lv (.double x :: st) M cs ss post) : AW F pc lv st M cs ss post := by
  intro K p l e s m args below meth c H locs ls Q hF hP hS hl hk
  exact lv_dload hF.1 hF.2.1 hd (lv_m hl h) (k K p l e s m args below meth c H locs ls Q hF hP hS hl hk)
theorem aw_aload_n {n : Fin 4} {x : Nat} (hd : decode F.2.1 pc = .ok (.aload_n n, 1)) (j : Nat) (h : lv[j]? = some (n.val, .ref x)) (k : AW F (pc + 1) lv (.ref x :: st) M cs ss post) : AW F pc lv st M cs ss post := by
  intro K p l e s m args below meth c H locs ls Q hF hP hS hl hk
  exact lv_aload_n hF.1 hF.2.1 hd rfl (lv_m hl h) (k K p l e s m args below meth c H locs ls Q hF hP hS hl hk)
theorem aw_aload {i : Nat} {x : Nat} (hd : decode F.2.1 pc = .ok (.aload i, 2)) (j : Nat) (h : lv[j]? = some (i, .ref x)) (k : AW F (pc + 2) lv (.ref x :: st) M cs ss post) : AW F pc lv st M cs ss post := by
  intro K p l e s m args below meth c H locs ls Q hF hP hS hl hk
  exact lv_aload hF.1 hF.2.1 hd (lv_m hl h) (k K p l e s m args below meth c H locs ls Q hF hP hS hl hk)
theorem aw_istore_n {n : Fin 4} {x : Int32} (lv' : List (Nat × Value)) (hd : decode F.2.1 pc = .ok (.istore_n n, 1)) (hn : n.val < F.2.2.1) (h : (n.val, .int x) :: lv.filter (fun q => !(q.1 == n.val) && !(q.1 + 1 == n.val && q.2.category == 2)) = lv') (k : AW F (pc + 1) lv' st M cs ss post) : AW F pc lv (.int x :: st) M cs ss post := by
  intro K p l e s m args below meth c H locs ls Q hF hP hS hl hk
  exact lv_istore_n hF.1 hF.2.1 hd rfl hl hn (lv_f1 h) (fun ls' hl' => k K p l e s m args below meth c H locs ls' Q hF hP hS hl' hk)
theorem aw_istore {i : Nat} {x : Int32} (lv' : List (Nat × Value)) (hd : decode F.2.1 pc = .ok (.istore i, 2)) (hn : i < F.2.2.1) (h : (i, .int x) :: lv.filter (fun q => !(q.1 == i) && !(q.1 + 1 == i && q.2.category == 2)) = lv') (k : AW F (pc + 2) lv' st M cs ss post) : AW F pc lv (.int x :: st) M cs ss post := by
  intro K p l e s m args below meth c H locs ls Q hF hP hS hl hk
  exact lv_istore hF.1 hF.2.1 hd hl hn (lv_f1 h) (fun ls' hl' => k K p l e s m args below meth c H locs ls' Q hF hP hS hl' hk)
theorem aw_lstore_n {n : Fin 4} {x : Int64} (lv' : List (Nat × Value)) (hd : decode F.2.1 pc = .ok (.lstore_n n, 1)) (hn : n.val + 1 < F.2.2.1) (h : (n.val, .long x) :: lv.filter (fun q => !(q.1 == n.val) && (!(q.1 == n.val + 1) && !(q.1 + 1 == n.val && q.2.category == 2))) = lv') (k : AW F (pc + 1) lv' st M cs ss post) : AW F pc lv (.long x :: st) M cs ss post := by
  intro K p l e s m args below meth c H locs ls Q hF hP hS hl hk
  exact lv_lstore_n hF.1 hF.2.1 hd rfl hl hn (lv_f2 h) (fun ls' hl' => k K p l e s m args below meth c H locs ls' Q hF hP hS hl' hk)
theorem aw_lstore {i : Nat} {x : Int64} (lv' : List (Nat × Value)) (hd : decode F.2.1 pc = .ok (.lstore i, 2)) (hn : i + 1 < F.2.2.1) (h : (i, .long x) :: lv.filter (fun q => !(q.1 == i) && (!(q.1 == i + 1) && !(q.1 + 1 == i && q.2.category == 2))) = lv') (k : AW F (pc + 2) lv' st M cs ss post) : AW F pc lv (.long x :: st) M cs ss post := by
  intro K p l e s m args below meth c H locs ls Q hF hP hS hl hk
  exact lv_lstore hF.1 hF.2.1 hd hl hn (lv_f2 h) (fun ls' hl' => k K p l e s m args below meth c H locs ls' Q hF hP hS hl' hk)
theorem aw_fstore_n {n : Fin 4} {x : UInt32} (lv' : List (Nat × Value)) (hd : decode F.2.1 pc = .ok (.fstore_n n, 1)) (hn : n.val < F.2.2.1) (h : (n.val, .float x) :: lv.filter (fun q => !(q.1 == n.val) && !(q.1 + 1 == n.val && q.2.category == 2)) = lv') (k : AW F (pc + 1) lv' st M cs ss post) : AW F pc lv (.float x :: st) M cs ss post := by
  intro K p l e s m args below meth c H locs ls Q hF hP hS hl hk
  exact lv_fstore_n hF.1 hF.2.1 hd rfl hl hn (lv_f1 h) (fun ls' hl' => k K p l e s m args below meth c H locs ls' Q hF hP hS hl' hk)
theorem aw_fstore {i : Nat} {x : UInt32} (lv' : List (Nat × Value)) (hd : decode F.2.1 pc = .ok (.fstore i, 2)) (hn : i < F.2.2.1) (h : (i, .float x) :: lv.filter (fun q => !(q.1 == i) && !(q.1 + 1 == i && q.2.category == 2)) = lv') (k : AW F (pc + 2) lv' st M cs ss post) : AW F pc lv (.float x :: st) M cs ss post := by
  intro K p l e s m args below meth c H locs ls Q hF hP hS hl hk
  exact lv_fstore hF.1 hF.2.1 hd hl hn (lv_f1 h) (fun ls' hl' => k K p l e s m args below meth c H locs ls' Q hF hP hS hl' hk)
theorem aw_dstore_n {n : Fin 4} {x : UInt64} (lv' : List (Nat × Value)) (hd : decode F.2.1 pc = .ok (.dstore_n n, 1)) (hn : n.val + 1 < F.2.2.1) (h : (n.val, .double x) :: lv.filter (fun q => !(q.1 == n.val) && (!(q.1 == n.val + 1) && !(q.1 + 1 == n.val && q.2.category == 2))) = lv') (k : AW F (pc + 1) lv' st M cs ss post) : AW F pc lv (.double x :: st) M cs ss post := by
  intro K p l e s m args below meth c H locs ls Q hF hP hS hl hk
  exact lv_dstore_n hF.1 hF.2.1 hd rfl hl hn (lv_f2 h) (fun ls' hl' => k K p l e s m args below meth c H locs ls' Q hF hP hS hl' hk)
theorem aw_dstore {i : Nat} {x : UInt64} (lv' : List (Nat × Value)) (hd : decode F.2.1 pc = .ok (.dstore i, 2)) (hn : i + 1 < F.2.2.1) (h : (i, .double x) :: lv.filter (fun q => !(q.1 == i) && (!(q.1 == i + 1) && !(q.1 + 1 == i && q.2.category == 2))) = lv') (k : AW F (pc + 2) lv' st M cs ss post) : AW F pc lv (.double x :: st) M cs ss post := by
  intro K p l e s m args below meth c H locs ls Q hF hP hS hl hk
  exact lv_dstore hF.1 hF.2.1 hd hl hn (lv_f2 h) (fun ls' hl' => k K p l e s m args below meth c H locs ls' Q hF hP hS hl' hk)
theorem aw_astore_n {n : Fin 4} {x : Nat} (lv' : List (Nat × Value)) (hd : decode F.2.1 pc = .ok (.astore_n n, 1)) (hn : n.val < F.2.2.1) (h : (n.val, .ref x) :: lv.filter (fun q => !(q.1 == n.val) && !(q.1 + 1 == n.val && q.2.category == 2)) = lv') (k : AW F (pc + 1) lv' st M cs ss post) : AW F pc lv (.ref x :: st) M cs ss post := by
  intro K p l e s m args below meth c H locs ls Q hF hP hS hl hk
  exact lv_astore_n hF.1 hF.2.1 hd rfl hl hn (lv_f1 h) (fun ls' hl' => k K p l e s m args below meth c H locs ls' Q hF hP hS hl' hk)
theorem aw_astore {i : Nat} {x : Nat} (lv' : List (Nat × Value)) (hd : decode F.2.1 pc = .ok (.astore i, 2)) (hn : i < F.2.2.1) (h : (i, .ref x) :: lv.filter (fun q => !(q.1 == i) && !(q.1 + 1 == i && q.2.category == 2)) = lv') (k : AW F (pc + 2) lv' st M cs ss post) : AW F pc lv (.ref x :: st) M cs ss post := by
  intro K p l e s m args below meth c H locs ls Q hF hP hS hl hk
  exact lv_astore hF.1 hF.2.1 hd hl hn (lv_f1 h) (fun ls' hl' => k K p l e s m args below meth c H locs ls' Q hF hP hS hl' hk)
theorem aw_iinc {i : Nat} {n : Int} {x : Int32} (v : Int32) (lv' : List (Nat × Value)) (hd : decode F.2.1 pc = .ok (.iinc i n, 3)) (j : Nat) (hj : lv[j]? = some (i, .int x)) (hv : x + Int32.ofInt n = v) (hn : i < F.2.2.1) (h : (i, Value.int v) :: lv.filter (fun q => !(q.1 == i) && !(q.1 + 1 == i && q.2.category == 2)) = lv') (k : AW F (pc + 3) lv' st M cs ss post) : AW F pc lv st M cs ss post := by
  intro K p l e s m args below meth c H locs ls Q hF hP hS hl hk
  exact lv_iinc hF.1 hF.2.1 hd hl (k := j) (by rw [List.getElem?_map, hj]; rfl) hv hn (lv_f1 (K := K) h) (fun ls' hl' => k K p l e s m args below meth c H locs ls' Q hF hP hS hl' hk)
theorem aw_dup {v : Value} (hd : decode F.2.1 pc = .ok (.dup, 1)) (hc : v.category = 1) (k : AW F (pc + 1) lv (v :: v :: st) M cs ss post) : AW F pc lv (v :: st) M cs ss post := by
  intro K p l e s m args below meth c H locs ls Q hF hP hS hl hk
  exact lv_dup hF.1 hF.2.1 hd (by rw [cv_cat]; exact hc) (k K p l e s m args below meth c H locs ls Q hF hP hS hl hk)
theorem aw_pop {v : Value} (hd : decode F.2.1 pc = .ok (.pop, 1)) (hc : v.category = 1) (k : AW F (pc + 1) lv st M cs ss post) : AW F pc lv (v :: st) M cs ss post := by
  intro K p l e s m args below meth c H locs ls Q hF hP hS hl hk
  exact lv_pop hF.1 hF.2.1 hd (va := cv K v) (by rw [cv_cat]; exact hc) (k K p l e s m args below meth c H locs ls Q hF hP hS hl hk)
theorem aw_dup2_2 {v : Value} (hd : decode F.2.1 pc = .ok (.dup2, 1)) (hc : v.category = 2) (k : AW F (pc + 1) lv (v :: v :: st) M cs ss post) : AW F pc lv (v :: st) M cs ss post := by
  intro K p l e s m args below meth c H locs ls Q hF hP hS hl hk
  exact lv_dup2_2 hF.1 hF.2.1 hd (by rw [cv_cat]; exact hc) (k K p l e s m args below meth c H locs ls Q hF hP hS hl hk)
theorem aw_dup2_11 {v w : Value} (hd : decode F.2.1 pc = .ok (.dup2, 1)) (hc : v.category = 1) (hc2 : w.category = 1) (k : AW F (pc + 1) lv (v :: w :: v :: w :: st) M cs ss post) : AW F pc lv (v :: w :: st) M cs ss post := by
  intro K p l e s m args below meth c H locs ls Q hF hP hS hl hk
  exact lv_dup2_11 hF.1 hF.2.1 hd (by rw [cv_cat]; exact hc) (by rw [cv_cat]; exact hc2) (k K p l e s m args below meth c H locs ls Q hF hP hS hl hk)
theorem aw_if_eq {x : Int32} {off : Int} (tgt : Nat) (hd : decode F.2.1 pc = .ok (.ifCond .eq off, 3)) (ht : (pc : Int) + off = (tgt : Int)) (kt : x = 0 → AW F tgt lv st M cs ss post) (kf : ¬ x = 0 → AW F (pc + 3) lv st M cs ss post) : AW F pc lv (.int x :: st) M cs ss post := by
  intro K p l e s m args below meth c H locs ls Q hF hP hS hl hk
  exact lv_if_eq hF.1 hF.2.1 hd ht (fun z => kt z K p l e s m args below meth c H locs ls Q hF hP hS hl hk) (fun z => kf z K p l e s m args below meth c H locs ls Q hF hP hS hl hk)
theorem aw_icmp_eq {x y : Int32} {off : Int} (tgt : Nat) (hd : decode F.2.1 pc = .ok (.if_icmp .eq off, 3)) (ht : (pc : Int) + off = (tgt : Int)) (kt : x = y → AW F tgt lv st M cs ss post) (kf : ¬ x = y → AW F (pc + 3) lv st M cs ss post) : AW F pc lv (.int y :: .int x :: st) M cs ss post := by
  intro K p l e s m args below meth c H locs ls Q hF hP hS hl hk
  exact lv_icmp_eq hF.1 hF.2.1 hd ht (fun z => kt z K p l e s m args below meth c H locs ls Q hF hP hS hl hk) (fun z => kf z K p l e s m args below meth c H locs ls Q hF hP hS hl hk)
theorem aw_leq {x y : Int64} {off : Int} (tgt : Nat) (hd : decode F.2.1 pc = .ok (.lcmp, 1)) (hd2 : decode F.2.1 (pc + 1) = .ok (.ifCond .eq off, 3)) (ht : ((pc + 1 : Nat) : Int) + off = (tgt : Int)) (kt : x = y → AW F tgt lv st M cs ss post) (kf : ¬ x = y → AW F (pc + 1 + 3) lv st M cs ss post) : AW F pc lv (.long y :: .long x :: st) M cs ss post :=
  aw_lcmp hd (aw_if_eq tgt hd2 ht (fun z => kt ((lg_cmp_eq x y).mp z)) (fun z => kf (fun q => z ((lg_cmp_eq x y).mpr q))))
theorem aw_if_ne {x : Int32} {off : Int} (tgt : Nat) (hd : decode F.2.1 pc = .ok (.ifCond .ne off, 3)) (ht : (pc : Int) + off = (tgt : Int)) (kt : ¬ x = 0 → AW F tgt lv st M cs ss post) (kf : x = 0 → AW F (pc + 3) lv st M cs ss post) : AW F pc lv (.int x :: st) M cs ss post := by
  intro K p l e s m args below meth c H locs ls Q hF hP hS hl hk
  exact lv_if_ne hF.1 hF.2.1 hd ht (fun z => kt z K p l e s m args below meth c H locs ls Q hF hP hS hl hk) (fun z => kf z K p l e s m args below meth c H locs ls Q hF hP hS hl hk)
theorem aw_icmp_ne {x y : Int32} {off : Int} (tgt : Nat) (hd : decode F.2.1 pc = .ok (.if_icmp .ne off, 3)) (ht : (pc : Int) + off = (tgt : Int)) (kt : ¬ x = y → AW F tgt lv st M cs ss post) (kf : x = y → AW F (pc + 3) lv st M cs ss post) : AW F pc lv (.int y :: .int x :: st) M cs ss post := by
  intro K p l e s m args below meth c H locs ls Q hF hP hS hl hk
  exact lv_icmp_ne hF.1 hF.2.1 hd ht (fun z => kt z K p l e s m args below meth c H locs ls Q hF hP hS hl hk) (fun z => kf z K p l e s m args below meth c H locs ls Q hF hP hS hl hk)
theorem aw_lne {x y : Int64} {off : Int} (tgt : Nat) (hd : decode F.2.1 pc = .ok (.lcmp, 1)) (hd2 : decode F.2.1 (pc + 1) = .ok (.ifCond .ne off, 3)) (ht : ((pc + 1 : Nat) : Int) + off = (tgt : Int)) (kt : ¬ x = y → AW F tgt lv st M cs ss post) (kf : x = y → AW F (pc + 1 + 3) lv st M cs ss post) : AW F pc lv (.long y :: .long x :: st) M cs ss post :=
  aw_lcmp hd (aw_if_ne tgt hd2 ht (fun z => kt (fun q => z ((lg_cmp_eq x y).mpr q))) (fun z => kf ((lg_cmp_eq x y).mp z)))
theorem aw_if_lt {x : Int32} {off : Int} (tgt : Nat) (hd : decode F.2.1 pc = .ok (.ifCond .lt off, 3)) (ht : (pc : Int) + off = (tgt : Int)) (kt : x < 0 → AW F tgt lv st M cs ss post) (kf : ¬ x < 0 → AW F (pc + 3) lv st M cs ss post) : AW F pc lv (.int x :: st) M cs ss post := by
  intro K p l e s m args below meth c H locs ls Q hF hP hS hl hk
  exact lv_if_lt hF.1 hF.2.1 hd ht (fun z => kt z K p l e s m args below meth c H locs ls Q hF hP hS hl hk) (fun z => kf z K p l e s m args below meth c H locs ls Q hF hP hS hl hk)
theorem aw_icmp_lt {x y : Int32} {off : Int} (tgt : Nat) (hd : decode F.2.1 pc = .ok (.if_icmp .lt off, 3)) (ht : (pc : Int) + off = (tgt : Int)) (kt : x < y → AW F tgt lv st M cs ss post) (kf : ¬ x < y → AW F (pc + 3) lv st M cs ss post) : AW F pc lv (.int y :: .int x :: st) M cs ss post := by
  intro K p l e s m args below meth c H locs ls Q hF hP hS hl hk
  exact lv_icmp_lt hF.1 hF.2.1 hd ht (fun z => kt z K p l e s m args below meth c H locs ls Q hF hP hS hl hk) (fun z => kf z K p l e s m args below meth c H locs ls Q hF hP hS hl hk)
theorem aw_llt {x y : Int64} {off : Int} (tgt : Nat) (hd : decode F.2.1 pc = .ok (.lcmp, 1)) (hd2 : decode F.2.1 (pc + 1) = .ok (.ifCond .lt off, 3)) (ht : ((pc + 1 : Nat) : Int) + off = (tgt : Int)) (kt : x < y → AW F tgt lv st M cs ss post) (kf : ¬ x < y → AW F (pc + 1 + 3) lv st M cs ss post) : AW F pc lv (.long y :: .long x :: st) M cs ss post :=
  aw_lcmp hd (aw_if_lt tgt hd2 ht (fun z => kt ((lg_cmp_lt x y).mp z)) (fun z => kf (fun q => z ((lg_cmp_lt x y).mpr q))))
theorem aw_if_ge {x : Int32} {off : Int} (tgt : Nat) (hd : decode F.2.1 pc = .ok (.ifCond .ge off, 3)) (ht : (pc : Int) + off = (tgt : Int)) (kt : 0 ≤ x → AW F tgt lv st M cs ss post) (kf : ¬ 0 ≤ x → AW F (pc + 3) lv st M cs ss post) : AW F pc lv (.int x :: st) M cs ss post := by
  intro K p l e s m args below meth c H locs ls Q hF hP hS hl hk
  exact lv_if_ge hF.1 hF.2.1 hd ht (fun z => kt z K p l e s m args below meth c H locs ls Q hF hP hS hl hk) (fun z => kf z K p l e s m args below meth c H locs ls Q hF hP hS hl hk)
theorem aw_icmp_ge {x y : Int32} {off : Int} (tgt : Nat) (hd : decode F.2.1 pc = .ok (.if_icmp .ge off, 3)) (ht : (pc : Int) + off = (tgt : Int)) (kt : y ≤ x → AW F tgt lv st M cs ss post) (kf : ¬ y ≤ x → AW F (pc + 3) lv st M cs ss post) : AW F pc lv (.int y :: .int x :: st) M cs ss post := by
  intro K p l e s m args below meth c H locs ls Q hF hP hS hl hk
  exact lv_icmp_ge hF.1 hF.2.1 hd ht (fun z => kt z K p l e s m args below meth c H locs ls Q hF hP hS hl hk) (fun z => kf z K p l e s m args below meth c H locs ls Q hF hP hS hl hk)
theorem aw_lge {x y : Int64} {off : Int} (tgt : Nat) (hd : decode F.2.1 pc = .ok (.lcmp, 1)) (hd2 : decode F.2.1 (pc + 1) = .ok (.ifCond .ge off, 3)) (ht : ((pc + 1 : Nat) : Int) + off = (tgt : Int)) (kt : y ≤ x → AW F tgt lv st M cs ss post) (kf : ¬ y ≤ x → AW F (pc + 1 + 3) lv st M cs ss post) : AW F pc lv (.long y :: .long x :: st) M cs ss post :=
  aw_lcmp hd (aw_if_ge tgt hd2 ht (fun z => kt ((lg_cmp_ge x y).mp z)) (fun z => kf (fun q => z ((lg_cmp_ge x y).mpr q))))
theorem aw_if_gt {x : Int32} {off : Int} (tgt : Nat) (hd : decode F.2.1 pc = .ok (.ifCond .gt off, 3)) (ht : (pc : Int) + off = (tgt : Int)) (kt : 0 < x → AW F tgt lv st M cs ss post) (kf : ¬ 0 < x → AW F (pc + 3) lv st M cs ss post) : AW F pc lv (.int x :: st) M cs ss post := by
  intro K p l e s m args below meth c H locs ls Q hF hP hS hl hk
  exact lv_if_gt hF.1 hF.2.1 hd ht (fun z => kt z K p l e s m args below meth c H locs ls Q hF hP hS hl hk) (fun z => kf z K p l e s m args below meth c H locs ls Q hF hP hS hl hk)
theorem aw_icmp_gt {x y : Int32} {off : Int} (tgt : Nat) (hd : decode F.2.1 pc = .ok (.if_icmp .gt off, 3)) (ht : (pc : Int) + off = (tgt : Int)) (kt : y < x → AW F tgt lv st M cs ss post) (kf : ¬ y < x → AW F (pc + 3) lv st M cs ss post) : AW F pc lv (.int y :: .int x :: st) M cs ss post := by
  intro K p l e s m args below meth c H locs ls Q hF hP hS hl hk
  exact lv_icmp_gt hF.1 hF.2.1 hd ht (fun z => kt z K p l e s m args below meth c H locs ls Q hF hP hS hl hk) (fun z => kf z K p l e s m args below meth c H locs ls Q hF hP hS hl hk)
theorem aw_lgt {x y : Int64} {off : Int} (tgt : Nat) (hd : decode F.2.1 pc = .ok (.lcmp, 1)) (hd2 : decode F.2.1 (pc + 1) = .ok (.ifCond .gt off, 3)) (ht : ((pc + 1 : Nat) : Int) + off = (tgt : Int)) (kt : y < x → AW F tgt lv st M cs ss post) (kf : ¬ y < x → AW F (pc + 1 + 3) lv st M cs ss post) : AW F pc lv (.long y :: .long x :: st) M cs ss post :=
  aw_lcmp hd (aw_if_gt tgt hd2 ht (fun z => kt ((lg_cmp_gt x y).mp z)) (fun z => kf (fun q => z ((lg_cmp_gt x y).mpr q))))
theorem aw_if_le {x : Int32} {off : Int} (tgt : Nat) (hd : decode F.2.1 pc = .ok (.ifCond .le off, 3)) (ht : (pc : Int) + off = (tgt : Int)) (kt : x ≤ 0 → AW F tgt lv st M cs ss post) (kf : ¬ x ≤ 0 → AW F (pc + 3) lv st M cs ss post) : AW F pc lv (.int x :: st) M cs ss post := by
  intro K p l e s m args below meth c H locs ls Q hF hP hS hl hk
  exact lv_if_le hF.1 hF.2.1 hd ht (fun z => kt z K p l e s m args below meth c H locs ls Q hF hP hS hl hk) (fun z => kf z K p l e s m args below meth c H locs ls Q hF hP hS hl hk)
theorem aw_icmp_le {x y : Int32} {off : Int} (tgt : Nat) (hd : decode F.2.1 pc = .ok (.if_icmp .le off, 3)) (ht : (pc : Int) + off = (tgt : Int)) (kt : x ≤ y → AW F tgt lv st M cs ss post) (kf : ¬ x ≤ y → AW F (pc + 3) lv st M cs ss post) : AW F pc lv (.int y :: .int x :: st) M cs ss post := by
  intro K p l e s m args below meth c H locs ls Q hF hP hS hl hk
  exact lv_icmp_le hF.1 hF.2.1 hd ht (fun z => kt z K p l e s m args below meth c H locs ls Q hF hP hS hl hk) (fun z => kf z K p l e s m args below meth c H locs ls Q hF hP hS hl hk)
theorem aw_lle {x y : Int64} {off : Int} (tgt : Nat) (hd : decode F.2.1 pc = .ok (.lcmp, 1)) (hd2 : decode F.2.1 (pc + 1) = .ok (.ifCond .le off, 3)) (ht : ((pc + 1 : Nat) : Int) + off = (tgt : Int)) (kt : x ≤ y → AW F tgt lv st M cs ss post) (kf : ¬ x ≤ y → AW F (pc + 1 + 3) lv st M cs ss post) : AW F pc lv (.long y :: .long x :: st) M cs ss post :=
  aw_lcmp hd (aw_if_le tgt hd2 ht (fun z => kt ((lg_cmp_le x y).mp z)) (fun z => kf (fun q => z ((lg_cmp_le x y).mpr q))))
theorem aw_goto {off : Int} (tgt : Nat) (hd : decode F.2.1 pc = .ok (.goto off, 3)) (ht : (pc : Int) + off = (tgt : Int)) (k : AW F tgt lv st M cs ss post) : AW F pc lv st M cs ss post := by
  intro K p l e s m args below meth c H locs ls Q hF hP hS hl hk
  exact lv_goto hF.1 hF.2.1 hd ht (k K p l e s m args below meth c H locs ls Q hF hP hS hl hk)
theorem aw_tableIn {dflt lo hi : Int} {offs : Array Int} {len : Nat} {x : Int32} {off : Int} (tgt : Nat) (hd : decode F.2.1 pc = .ok (.tableswitch dflt lo hi offs, len)) (h1 : ¬ x.toInt < lo) (h2 : ¬ hi < x.toInt) (ho : offs[(x.toInt - lo).toNat]? = some off) (ht : (pc : Int) + off = (tgt : Int)) (k : AW F tgt lv st M cs ss post) : AW F pc lv (.int x :: st) M cs ss post := by
  intro K p l e s m args below meth c H locs ls Q hF hP hS hl hk
  exact lv_tableIn hF.1 hF.2.1 hd h1 h2 ho ht (k K p l e s m args below meth c H locs ls Q hF hP hS hl hk)
theorem aw_tableOut {dflt lo hi : Int} {offs : Array Int} {len : Nat} {x : Int32} (tgt : Nat) (hd : decode F.2.1 pc = .ok (.tableswitch dflt lo hi offs, len)) (h : x.toInt < lo ∨ hi < x.toInt) (ht : (pc : Int) + dflt = (tgt : Int)) (k : AW F tgt lv st M cs ss post) : AW F pc lv (.int x :: st) M cs ss post := by
  intro K p l e s m args below meth c H locs ls Q hF hP hS hl hk
  exact lv_tableOut hF.1 hF.2.1 hd h ht (k K p l e s m args below meth c H locs ls Q hF hP hS hl hk)
theorem aw_lookup {dflt : Int} {ps : Array (Int × Int)} {len : Nat} {x : Int32} {off : Int} (tgt : Nat) (hd : decode F.2.1 pc = .ok (.lookupswitch dflt ps, len)) (hp : (ps.toList.zip (ps.toList.drop 1)).all (fun (a, next) => a.1 < next.1) = true) (ho : Op.lookupswitch.offset ps.toList dflt x.toInt = off) (ht : (pc : Int) + off = (tgt : Int)) (k : AW F tgt lv st M cs ss post) : AW F pc lv (.int x :: st) M cs ss post := by
  intro K p l e s m args below meth c H locs ls Q hF hP hS hl hk
  exact lv_lookup hF.1 hF.2.1 hd hp ho ht (k K p l e s m args below meth c H locs ls Q hF hP hS hl hk)
theorem aw_topi {x : Int32} (k : ∀ y : Int32, y = x → AW F pc lv (.int y :: st) M cs ss post) : AW F pc lv (.int x :: st) M cs ss post := k x rfl
theorem aw_topl {x : Int64} (k : ∀ y : Int64, y = x → AW F pc lv (.long y :: st) M cs ss post) : AW F pc lv (.long x :: st) M cs ss post := k x rfl
theorem aw_topf {x : UInt32} (k : ∀ y : UInt32, y = x → AW F pc lv (.float y :: st) M cs ss post) : AW F pc lv (.float x :: st) M cs ss post := k x rfl
theorem aw_topd {x : UInt64} (k : ∀ y : UInt64, y = x → AW F pc lv (.double y :: st) M cs ss post) : AW F pc lv (.double x :: st) M cs ss post := k x rfl
theorem aw_eqs {st' : List Value} (e : st = st') (k : AW F pc lv st' M cs ss post) : AW F pc lv st M cs ss post := e ▸ k
theorem aw_eqM {M' : xM} (e : M = M') (k : AW F pc lv st M' cs ss post) : AW F pc lv st M cs ss post := e ▸ k
theorem aw_sub {lv' : List (Nat × Value)} (ks : List Nat) (h : lv_pick lv ks = lv') (k : AW F pc lv' st M cs ss post) : AW F pc lv st M cs ss post := by
  intro K p l e s m args below meth c H locs ls Q hF hP hS hl hk
  refine k K p l e s m args below meth c H locs ls Q hF hP hS (lv_sub hl ks ?_) hk
  subst h
  simp only [lv_pick, List.map_filterMap, List.getElem?_map]
theorem aw_post {post' : Option Value → xM → Prop} (h : ∀ r M', post' r M' → post r M') (k : AW F pc lv st M cs ss post') : AW F pc lv st M cs ss post := by
  intro K p l e s m args below meth c H locs ls Q hF hP hS hl hk
  exact k K p l e s m args below meth c H locs ls Q hF hP hS hl (fun r M' H' locs' cs' ss' pc' ls' q => hk r M' H' locs' cs' ss' pc' ls' (h r M' q))
theorem aw_ret  (hd : decode F.2.1 pc = .ok (.return_, 1)) (hr : F.2.2.2.1 = none) (hc : cs ≤ F.2.2.2.2.2.2.2.1) (hs : ss ≤ F.2.2.2.2.2.2.2.2) (hp : post (none) M) : AW F pc lv ([]) M cs ss post := by
  intro K p l e s m args below meth c H locs ls Q hF hP hS hl hk
  exact hk (none) M H locs cs ss pc ls hp hP hS hc hs ⟨hd, hr⟩
theorem aw_iret {v : Int32} (hd : decode F.2.1 pc = .ok (.ireturn, 1)) (hr : F.2.2.2.1 = some .int) (hc : cs ≤ F.2.2.2.2.2.2.2.1) (hs : ss ≤ F.2.2.2.2.2.2.2.2) (hp : post (some (.int v)) M) : AW F pc lv ([.int v]) M cs ss post := by
  intro K p l e s m args below meth c H locs ls Q hF hP hS hl hk
  exact hk (some (.int v)) M H locs cs ss pc ls hp hP hS hc hs ⟨hd, .int, hr, rfl⟩
theorem aw_zret {v : Int32} (hd : decode F.2.1 pc = .ok (.ireturn, 1)) (hr : F.2.2.2.1 = some .boolean) (hn : narrow .boolean (.int v) = .int v) (hc : cs ≤ F.2.2.2.2.2.2.2.1) (hs : ss ≤ F.2.2.2.2.2.2.2.2) (hp : post (some (.int v)) M) : AW F pc lv ([.int v]) M cs ss post := by
  intro K p l e s m args below meth c H locs ls Q hF hP hS hl hk
  exact hk (some (.int v)) M H locs cs ss pc ls hp hP hS hc hs ⟨hd, .boolean, hr, hn⟩
theorem aw_lret {v : Int64} (hd : decode F.2.1 pc = .ok (.lreturn, 1)) (hr : F.2.2.2.1 = some .long) (hc : cs ≤ F.2.2.2.2.2.2.2.1) (hs : ss ≤ F.2.2.2.2.2.2.2.2) (hp : post (some (.long v)) M) : AW F pc lv ([.long v]) M cs ss post := by
  intro K p l e s m args below meth c H locs ls Q hF hP hS hl hk
  exact hk (some (.long v)) M H locs cs ss pc ls hp hP hS hc hs ⟨hd, hr⟩
theorem aw_dret {v : UInt64} (hd : decode F.2.1 pc = .ok (.dreturn, 1)) (hr : F.2.2.2.1 = some .double) (hc : cs ≤ F.2.2.2.2.2.2.2.1) (hs : ss ≤ F.2.2.2.2.2.2.2.2) (hp : post (some (.double v)) M) : AW F pc lv ([.double v]) M cs ss post := by
  intro K p l e s m args below meth c H locs ls Q hF hP hS hl hk
  exact hk (some (.double v)) M H locs cs ss pc ls hp hP hS hc hs ⟨hd, hr⟩
theorem narrow_z {c : Prop} [Decidable c] : narrow .boolean (.int (if c then (1 : Int32) else 0)) = .int (if c then (1 : Int32) else 0) := by by_cases h : c <;> simp [h] <;> rfl
end RW
