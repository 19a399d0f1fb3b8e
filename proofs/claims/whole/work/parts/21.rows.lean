section FR
variable {g : fw_G} {M : fw_M} {Post : fw_O → fw_W → Prop} {nc ns : Nat} {w : fw_W} {pc : Nat} {L : List (Nat × Value)} {rest : List Value}
theorem fr_iconst {n : Int} {v : Int32} (hdg : decode M.2.1 pc = .ok (.iconst n, 1)) (hv : Int32.ofInt n = v) (k : fw_R g M Post nc ns w (pc + 1) L (.int v :: rest)) : fw_R g M Post nc ns w pc L (rest) := by
  intro hg s m args below meth c H locs cells slots ls cx hB hH hS e1 e2 hl
  exact lv_iconst hg.1 cx.2.2.2.2.1 hdg hv (k hg s m args below meth c H locs cells slots ls cx hB hH hS e1 e2 hl)
theorem fr_bipush {n : Int} {v : Int32} (hdg : decode M.2.1 pc = .ok (.bipush n, 2)) (hv : (Int8.ofInt n).toInt32 = v) (k : fw_R g M Post nc ns w (pc + 2) L (.int v :: rest)) : fw_R g M Post nc ns w pc L (rest) := by
  intro hg s m args below meth c H locs cells slots ls cx hB hH hS e1 e2 hl
  exact lv_bipush hg.1 cx.2.2.2.2.1 hdg hv (k hg s m args below meth c H locs cells slots ls cx hB hH hS e1 e2 hl)
theorem fr_sipush {n : Int} {v : Int32} (hdg : decode M.2.1 pc = .ok (.sipush n, 3)) (hv : (Int16.ofInt n).toInt32 = v) (k : fw_R g M Post nc ns w (pc + 3) L (.int v :: rest)) : fw_R g M Post nc ns w pc L (rest) := by
  intro hg s m args below meth c H locs cells slots ls cx hB hH hS e1 e2 hl
  exact lv_sipush hg.1 cx.2.2.2.2.1 hdg hv (k hg s m args below meth c H locs cells slots ls cx hB hH hS e1 e2 hl)
theorem fr_lconst {n : Fin 2} {v : Int64} (hdg : decode M.2.1 pc = .ok (.lconst n, 1)) (hv : Int64.ofNat (n : Nat) = v) (k : fw_R g M Post nc ns w (pc + 1) L (.long v :: rest)) : fw_R g M Post nc ns w pc L (rest) := by
  intro hg s m args below meth c H locs cells slots ls cx hB hH hS e1 e2 hl
  exact lv_lconst hg.1 cx.2.2.2.2.1 hdg hv (k hg s m args below meth c H locs cells slots ls cx hB hH hS e1 e2 hl)
theorem fr_iadd {x y : Int32} (hdg : decode M.2.1 pc = .ok (.iadd, 1)) (k : fw_R g M Post nc ns w (pc + 1) L (.int (x + y) :: rest)) : fw_R g M Post nc ns w pc L (.int y :: .int x :: rest) := by
  intro hg s m args below meth c H locs cells slots ls cx hB hH hS e1 e2 hl
  exact lv_iadd hg.1 cx.2.2.2.2.1 hdg (k hg s m args below meth c H locs cells slots ls cx hB hH hS e1 e2 hl)
theorem fr_isub {x y : Int32} (hdg : decode M.2.1 pc = .ok (.isub, 1)) (k : fw_R g M Post nc ns w (pc + 1) L (.int (x - y) :: rest)) : fw_R g M Post nc ns w pc L (.int y :: .int x :: rest) := by
  intro hg s m args below meth c H locs cells slots ls cx hB hH hS e1 e2 hl
  exact lv_isub hg.1 cx.2.2.2.2.1 hdg (k hg s m args below meth c H locs cells slots ls cx hB hH hS e1 e2 hl)
theorem fr_imul {x y : Int32} (hdg : decode M.2.1 pc = .ok (.imul, 1)) (k : fw_R g M Post nc ns w (pc + 1) L (.int (x * y) :: rest)) : fw_R g M Post nc ns w pc L (.int y :: .int x :: rest) := by
  intro hg s m args below meth c H locs cells slots ls cx hB hH hS e1 e2 hl
  exact lv_imul hg.1 cx.2.2.2.2.1 hdg (k hg s m args below meth c H locs cells slots ls cx hB hH hS e1 e2 hl)
theorem fr_iand {x y : Int32} (hdg : decode M.2.1 pc = .ok (.iand, 1)) (k : fw_R g M Post nc ns w (pc + 1) L (.int (x &&& y) :: rest)) : fw_R g M Post nc ns w pc L (.int y :: .int x :: rest) := by
  intro hg s m args below meth c H locs cells slots ls cx hB hH hS e1 e2 hl
  exact lv_iand hg.1 cx.2.2.2.2.1 hdg (k hg s m args below meth c H locs cells slots ls cx hB hH hS e1 e2 hl)
theorem fr_ior {x y : Int32} (hdg : decode M.2.1 pc = .ok (.ior, 1)) (k : fw_R g M Post nc ns w (pc + 1) L (.int (x ||| y) :: rest)) : fw_R g M Post nc ns w pc L (.int y :: .int x :: rest) := by
  intro hg s m args below meth c H locs cells slots ls cx hB hH hS e1 e2 hl
  exact lv_ior hg.1 cx.2.2.2.2.1 hdg (k hg s m args below meth c H locs cells slots ls cx hB hH hS e1 e2 hl)
theorem fr_ixor {x y : Int32} (hdg : decode M.2.1 pc = .ok (.ixor, 1)) (k : fw_R g M Post nc ns w (pc + 1) L (.int (x ^^^ y) :: rest)) : fw_R g M Post nc ns w pc L (.int y :: .int x :: rest) := by
  intro hg s m args below meth c H locs cells slots ls cx hB hH hS e1 e2 hl
  exact lv_ixor hg.1 cx.2.2.2.2.1 hdg (k hg s m args below meth c H locs cells slots ls cx hB hH hS e1 e2 hl)
theorem fr_ineg {x : Int32} (hdg : decode M.2.1 pc = .ok (.ineg, 1)) (k : fw_R g M Post nc ns w (pc + 1) L (.int (-x) :: rest)) : fw_R g M Post nc ns w pc L (.int x :: rest) := by
  intro hg s m args below meth c H locs cells slots ls cx hB hH hS e1 e2 hl
  exact lv_ineg hg.1 cx.2.2.2.2.1 hdg (k hg s m args below meth c H locs cells slots ls cx hB hH hS e1 e2 hl)
theorem fr_ladd {x y : Int64} (hdg : decode M.2.1 pc = .ok (.ladd, 1)) (k : fw_R g M Post nc ns w (pc + 1) L (.long (x + y) :: rest)) : fw_R g M Post nc ns w pc L (.long y :: .long x :: rest) := by
  intro hg s m args below meth c H locs cells slots ls cx hB hH hS e1 e2 hl
  exact lv_ladd hg.1 cx.2.2.2.2.1 hdg (k hg s m args below meth c H locs cells slots ls cx hB hH hS e1 e2 hl)
theorem fr_lsub {x y : Int64} (hdg : decode M.2.1 pc = .ok (.lsub, 1)) (k : fw_R g M Post nc ns w (pc + 1) L (.long (x - y) :: rest)) : fw_R g M Post nc ns w pc L (.long y :: .long x :: rest) := by
  intro hg s m args below meth c H locs cells slots ls cx hB hH hS e1 e2 hl
  exact lv_lsub hg.1 cx.2.2.2.2.1 hdg (k hg s m args below meth c H locs cells slots ls cx hB hH hS e1 e2 hl)
theorem fr_land {x y : Int64} (hdg : decode M.2.1 pc = .ok (.land, 1)) (k : fw_R g M Post nc ns w (pc + 1) L (.long (x &&& y) :: rest)) : fw_R g M Post nc ns w pc L (.long y :: .long x :: rest) := by
  intro hg s m args below meth c H locs cells slots ls cx hB hH hS e1 e2 hl
  exact lv_land hg.1 cx.2.2.2.2.1 hdg (k hg s m args below meth c H locs cells slots ls cx hB hH hS e1 e2 hl)
theorem fr_lor {x y : Int64} (hdg : decode M.2.1 pc = .ok (.lor, 1)) (k : fw_R g M Post nc ns w (pc + 1) L (.long (x ||| y) :: rest)) : fw_R g M Post nc ns w pc L (.long y :: .long x :: rest) := by
  intro hg s m args below meth c H locs cells slots ls cx hB hH hS e1 e2 hl
  exact lv_lor hg.1 cx.2.2.2.2.1 hdg (k hg s m args below meth c H locs cells slots ls cx hB hH hS e1 e2 hl)
theorem fr_lxor {x y : Int64} (hdg : decode M.2.1 pc = .ok (.lxor, 1)) (k : fw_R g M Post nc ns w (pc + 1) L (.long (x ^^^ y) :: rest)) : fw_R g M Post nc ns w pc L (.long y :: .long x :: rest) := by
  intro hg s m args below meth c H locs cells slots ls cx hB hH hS e1 e2 hl
  exact lv_lxor hg.1 cx.2.2.2.2.1 hdg (k hg s m args below meth c H locs cells slots ls cx hB hH hS e1 e2 hl)
theorem fr_ishl {x y : Int32} (hdg : decode M.2.1 pc = .ok (.ishl, 1)) (k : fw_R g M Post nc ns w (pc + 1) L (.int (x <<< (y &&& 31)) :: rest)) : fw_R g M Post nc ns w pc L (.int y :: .int x :: rest) := by
  intro hg s m args below meth c H locs cells slots ls cx hB hH hS e1 e2 hl
  exact lv_ishl hg.1 cx.2.2.2.2.1 hdg (k hg s m args below meth c H locs cells slots ls cx hB hH hS e1 e2 hl)
theorem fr_ishr {x y : Int32} (hdg : decode M.2.1 pc = .ok (.ishr, 1)) (k : fw_R g M Post nc ns w (pc + 1) L (.int (x >>> (y &&& 31)) :: rest)) : fw_R g M Post nc ns w pc L (.int y :: .int x :: rest) := by
  intro hg s m args below meth c H locs cells slots ls cx hB hH hS e1 e2 hl
  exact lv_ishr hg.1 cx.2.2.2.2.1 hdg (k hg s m args below meth c H locs cells slots ls cx hB hH hS e1 e2 hl)
theorem fr_i2l {x : Int32} {v : Int64} (hdg : decode M.2.1 pc = .ok (.i2l, 1)) (hv : x.toInt64 = v) (k : fw_R g M Post nc ns w (pc + 1) L (.long v :: rest)) : fw_R g M Post nc ns w pc L (.int x :: rest) := by
  intro hg s m args below meth c H locs cells slots ls cx hB hH hS e1 e2 hl
  exact lv_i2l hg.1 cx.2.2.2.2.1 hdg hv (k hg s m args below meth c H locs cells slots ls cx hB hH hS e1 e2 hl)
theorem fr_l2i {x : Int64} {v : Int32} (hdg : decode M.2.1 pc = .ok (.l2i, 1)) (hv : x.toInt32 = v) (k : fw_R g M Post nc ns w (pc + 1) L (.int v :: rest)) : fw_R g M Post nc ns w pc L (.long x :: rest) := by
  intro hg s m args below meth c H locs cells slots ls cx hB hH hS e1 e2 hl
  exact lv_l2i hg.1 cx.2.2.2.2.1 hdg hv (k hg s m args below meth c H locs cells slots ls cx hB hH hS e1 e2 hl)
theorem fr_iushr {x y v : Int32} (hdg : decode M.2.1 pc = .ok (.iushr, 1)) (hv : (x.toUInt32 >>> (y.toUInt32 &&& Int32.toUInt32 31)).toInt32 = v) (k : fw_R g M Post nc ns w (pc + 1) L (.int v :: rest)) : fw_R g M Post nc ns w pc L (.int y :: .int x :: rest) := by
  intro hg s m args below meth c H locs cells slots ls cx hB hH hS e1 e2 hl
  exact lv_iushr hg.1 cx.2.2.2.2.1 hdg hv (k hg s m args below meth c H locs cells slots ls cx hB hH hS e1 e2 hl)
theorem fr_lushr {x v : Int64} {y : Int32} (hdg : decode M.2.1 pc = .ok (.lushr, 1)) (hv : (x.toUInt64 >>> (y.toInt64.toUInt64 &&& Int64.toUInt64 63)).toInt64 = v) (k : fw_R g M Post nc ns w (pc + 1) L (.long v :: rest)) : fw_R g M Post nc ns w pc L (.int y :: .long x :: rest) := by
  intro hg s m args below meth c H locs cells slots ls cx hB hH hS e1 e2 hl
  exact lv_lushr hg.1 cx.2.2.2.2.1 hdg hv (k hg s m args below meth c H locs cells slots ls cx hB hH hS e1 e2 hl)
theorem fr_lshl {x v : Int64} {y : Int32} (hdg : decode M.2.1 pc = .ok (.lshl, 1)) (hv : x <<< (y.toInt64 &&& 63) = v) (k : fw_R g M Post nc ns w (pc + 1) L (.long v :: rest)) : fw_R g M Post nc ns w pc L (.int y :: .long x :: rest) := by
  intro hg s m args below meth c H locs cells slots ls cx hB hH hS e1 e2 hl
  exact lv_lshl hg.1 cx.2.2.2.2.1 hdg hv (k hg s m args below meth c H locs cells slots ls cx hB hH hS e1 e2 hl)
theorem fr_dup {va : Value} (hdg : decode M.2.1 pc = .ok (.dup, 1)) (hva : va.category = 1) (k : fw_R g M Post nc ns w (pc + 1) L (va :: va :: rest)) : fw_R g M Post nc ns w pc L (va :: rest) := by
  intro hg s m args below meth c H locs cells slots ls cx hB hH hS e1 e2 hl
  exact lv_dup hg.1 cx.2.2.2.2.1 hdg hva (k hg s m args below meth c H locs cells slots ls cx hB hH hS e1 e2 hl)
theorem fr_pop {va : Value} (hdg : decode M.2.1 pc = .ok (.pop, 1)) (hva : va.category = 1) (k : fw_R g M Post nc ns w (pc + 1) L (rest)) : fw_R g M Post nc ns w pc L (va :: rest) := by
  intro hg s m args below meth c H locs cells slots ls cx hB hH hS e1 e2 hl
  exact lv_pop hg.1 cx.2.2.2.2.1 hdg hva (k hg s m args below meth c H locs cells slots ls cx hB hH hS e1 e2 hl)
theorem fr_dup_x1 {va vb : Value} (hdg : decode M.2.1 pc = .ok (.dup_x1, 1)) (hva : va.category = 1) (hvb : vb.category = 1) (k : fw_R g M Post nc ns w (pc + 1) L (va :: vb :: va :: rest)) : fw_R g M Post nc ns w pc L (va :: vb :: rest) := by
  intro hg s m args below meth c H locs cells slots ls cx hB hH hS e1 e2 hl
  exact lv_dup_x1 hg.1 cx.2.2.2.2.1 hdg hva hvb (k hg s m args below meth c H locs cells slots ls cx hB hH hS e1 e2 hl)
theorem fr_dup_x2 {va vb vd : Value} (hdg : decode M.2.1 pc = .ok (.dup_x2, 1)) (hva : va.category = 1) (hvb : vb.category = 1) (hvd : vd.category = 1) (k : fw_R g M Post nc ns w (pc + 1) L (va :: vb :: vd :: va :: rest)) : fw_R g M Post nc ns w pc L (va :: vb :: vd :: rest) := by
  intro hg s m args below meth c H locs cells slots ls cx hB hH hS e1 e2 hl
  exact lv_dup_x2 hg.1 cx.2.2.2.2.1 hdg hva hvb hvd (k hg s m args below meth c H locs cells slots ls cx hB hH hS e1 e2 hl)
theorem fr_dup2_11 {va vb : Value} (hdg : decode M.2.1 pc = .ok (.dup2, 1)) (hva : va.category = 1) (hvb : vb.category = 1) (k : fw_R g M Post nc ns w (pc + 1) L (va :: vb :: va :: vb :: rest)) : fw_R g M Post nc ns w pc L (va :: vb :: rest) := by
  intro hg s m args below meth c H locs cells slots ls cx hB hH hS e1 e2 hl
  exact lv_dup2_11 hg.1 cx.2.2.2.2.1 hdg hva hvb (k hg s m args below meth c H locs cells slots ls cx hB hH hS e1 e2 hl)
theorem fr_dup2_2 {va : Value} (hdg : decode M.2.1 pc = .ok (.dup2, 1)) (hva : va.category = 2) (k : fw_R g M Post nc ns w (pc + 1) L (va :: va :: rest)) : fw_R g M Post nc ns w pc L (va :: rest) := by
  intro hg s m args below meth c H locs cells slots ls cx hB hH hS e1 e2 hl
  exact lv_dup2_2 hg.1 cx.2.2.2.2.1 hdg hva (k hg s m args below meth c H locs cells slots ls cx hB hH hS e1 e2 hl)
theorem fr_if_eq {x : Int32} {off : Int} {tgt : Nat} (hdg : decode M.2.1 pc = .ok (.ifCond .eq off, 3)) (ht : (pc : Int) + off = (tgt : Int)) (kt : x = 0 → fw_R g M Post nc ns w tgt L rest) (kf : ¬ x = 0 → fw_R g M Post nc ns w (pc + 3) L rest) : fw_R g M Post nc ns w pc L (.int x :: rest) := by
  intro hg s m args below meth c H locs cells slots ls cx hB hH hS e1 e2 hl
  exact lv_if_eq hg.1 cx.2.2.2.2.1 hdg ht (fun hq => kt hq hg s m args below meth c H locs cells slots ls cx hB hH hS e1 e2 hl) (fun hq => kf hq hg s m args below meth c H locs cells slots ls cx hB hH hS e1 e2 hl)
theorem fr_icmp_eq {x y : Int32} {off : Int} {tgt : Nat} (hdg : decode M.2.1 pc = .ok (.if_icmp .eq off, 3)) (ht : (pc : Int) + off = (tgt : Int)) (kt : x = y → fw_R g M Post nc ns w tgt L rest) (kf : ¬ x = y → fw_R g M Post nc ns w (pc + 3) L rest) : fw_R g M Post nc ns w pc L (.int y :: .int x :: rest) := by
  intro hg s m args below meth c H locs cells slots ls cx hB hH hS e1 e2 hl
  exact lv_icmp_eq hg.1 cx.2.2.2.2.1 hdg ht (fun hq => kt hq hg s m args below meth c H locs cells slots ls cx hB hH hS e1 e2 hl) (fun hq => kf hq hg s m args below meth c H locs cells slots ls cx hB hH hS e1 e2 hl)
theorem fr_if_ne {x : Int32} {off : Int} {tgt : Nat} (hdg : decode M.2.1 pc = .ok (.ifCond .ne off, 3)) (ht : (pc : Int) + off = (tgt : Int)) (kt : ¬ x = 0 → fw_R g M Post nc ns w tgt L rest) (kf : x = 0 → fw_R g M Post nc ns w (pc + 3) L rest) : fw_R g M Post nc ns w pc L (.int x :: rest) := by
  intro hg s m args below meth c H locs cells slots ls cx hB hH hS e1 e2 hl
  exact lv_if_ne hg.1 cx.2.2.2.2.1 hdg ht (fun hq => kt hq hg s m args below meth c H locs cells slots ls cx hB hH hS e1 e2 hl) (fun hq => kf hq hg s m args below meth c H locs cells slots ls cx hB hH hS e1 e2 hl)
theorem fr_icmp_ne {x y : Int32} {off : Int} {tgt : Nat} (hdg : decode M.2.1 pc = .ok (.if_icmp .ne off, 3)) (ht : (pc : Int) + off = (tgt : Int)) (kt : ¬ x = y → fw_R g M Post nc ns w tgt L rest) (kf : x = y → fw_R g M Post nc ns w (pc + 3) L rest) : fw_R g M Post nc ns w pc L (.int y :: .int x :: rest) := by
  intro hg s m args below meth c H locs cells slots ls cx hB hH hS e1 e2 hl
  exact lv_icmp_ne hg.1 cx.2.2.2.2.1 hdg ht (fun hq => kt hq hg s m args below meth c H locs cells slots ls cx hB hH hS e1 e2 hl) (fun hq => kf hq hg s m args below meth c H locs cells slots ls cx hB hH hS e1 e2 hl)
theorem fr_if_lt {x : Int32} {off : Int} {tgt : Nat} (hdg : decode M.2.1 pc = .ok (.ifCond .lt off, 3)) (ht : (pc : Int) + off = (tgt : Int)) (kt : x < 0 → fw_R g M Post nc ns w tgt L rest) (kf : ¬ x < 0 → fw_R g M Post nc ns w (pc + 3) L rest) : fw_R g M Post nc ns w pc L (.int x :: rest) := by
  intro hg s m args below meth c H locs cells slots ls cx hB hH hS e1 e2 hl
  exact lv_if_lt hg.1 cx.2.2.2.2.1 hdg ht (fun hq => kt hq hg s m args below meth c H locs cells slots ls cx hB hH hS e1 e2 hl) (fun hq => kf hq hg s m args below meth c H locs cells slots ls cx hB hH hS e1 e2 hl)
theorem fr_icmp_lt {x y : Int32} {off : Int} {tgt : Nat} (hdg : decode M.2.1 pc = .ok (.if_icmp .lt off, 3)) (ht : (pc : Int) + off = (tgt : Int)) (kt : x < y → fw_R g M Post nc ns w tgt L rest) (kf : ¬ x < y → fw_R g M Post nc ns w (pc + 3) L rest) : fw_R g M Post nc ns w pc L (.int y :: .int x :: rest) := by
  intro hg s m args below meth c H locs cells slots ls cx hB hH hS e1 e2 hl
  exact lv_icmp_lt hg.1 cx.2.2.2.2.1 hdg ht (fun hq => kt hq hg s m args below meth c H locs cells slots ls cx hB hH hS e1 e2 hl) (fun hq => kf hq hg s m args below meth c H locs cells slots ls cx hB hH hS e1 e2 hl)
theorem fr_if_ge {x : Int32} {off : Int} {tgt : Nat} (hdg : decode M.2.1 pc = .ok (.ifCond .ge off, 3)) (ht : (pc : Int) + off = (tgt : Int)) (kt : 0 ≤ x → fw_R g M Post nc ns w tgt L rest) (kf : ¬ 0 ≤ x → fw_R g M Post nc ns w (pc + 3) L rest) : fw_R g M Post nc ns w pc L (.int x :: rest) := by
  intro hg s m args below meth c H locs cells slots ls cx hB hH hS e1 e2 hl
  exact lv_if_ge hg.1 cx.2.2.2.2.1 hdg ht (fun hq => kt hq hg s m args below meth c H locs cells slots ls cx hB hH hS e1 e2 hl) (fun hq => kf hq hg s m args below meth c H locs cells slots ls cx hB hH hS e1 e2 hl)
theorem fr_icmp_ge {x y : Int32} {off : Int} {tgt : Nat} (hdg : decode M.2.1 pc = .ok (.if_icmp .ge off, 3)) (ht : (pc : Int) + off = (tgt : Int)) (kt : y ≤ x → fw_R g M Post nc ns w tgt L rest) (kf : ¬ y ≤ x → fw_R g M Post nc ns w (pc + 3) L rest) : fw_R g M Post nc ns w pc L (.int y :: .int x :: rest) := by
  intro hg s m args below meth c H locs cells slots ls cx hB hH hS e1 e2 hl
  exact lv_icmp_ge hg.1 cx.2.2.2.2.1 hdg ht (fun hq => kt hq hg s m args below meth c H locs cells slots ls cx hB hH hS e1 e2 hl) (fun hq => kf hq hg s m args below meth c H locs cells slots ls cx hB hH hS e1 e2 hl)
theorem fr_if_gt {x : Int32} {off : Int} {tgt : Nat} (hdg : decode M.2.1 pc = .ok (.ifCond .gt off, 3)) (ht : (pc : Int) + off = (tgt : Int)) (kt : 0 < x → fw_R g M Post nc ns w tgt L rest) (kf : ¬ 0 < x → fw_R g M Post nc ns w (pc + 3) L rest) : fw_R g M Post nc ns w pc L (.int x :: rest) := by
  intro hg s m args below meth c H locs cells slots ls cx hB hH hS e1 e2 hl
  exact lv_if_gt hg.1 cx.2.2.2.2.1 hdg ht (fun hq => kt hq hg s m args below meth c H locs cells slots ls cx hB hH hS e1 e2 hl) (fun hq => kf hq hg s m args below meth c H locs cells slots ls cx hB hH hS e1 e2 hl)
theorem fr_icmp_gt {x y : Int32} {off : Int} {tgt : Nat} (hdg : decode M.2.1 pc = .ok (.if_icmp .gt off, 3)) (ht : (pc : Int) + off = (tgt : Int)) (kt : y < x → fw_R g M Post nc ns w tgt L rest) (kf : ¬ y < x → fw_R g M Post nc ns w (pc + 3) L rest) : fw_R g M Post nc ns w pc L (.int y :: .int x :: rest) := by
  intro hg s m args below meth c H locs cells slots ls cx hB hH hS e1 e2 hl
  exact lv_icmp_gt hg.1 cx.2.2.2.2.1 hdg ht (fun hq => kt hq hg s m args below meth c H locs cells slots ls cx hB hH hS e1 e2 hl) (fun hq => kf hq hg s m args below meth c H locs cells slots ls cx hB hH hS e1 e2 hl)
theorem fr_if_le {x : Int32} {off : Int} {tgt : Nat} (hdg : decode M.2.1 pc = .ok (.ifCond .le off, 3)) (ht : (pc : Int) + off = (tgt : Int)) (kt : x ≤ 0 → fw_R g M Post nc ns w tgt L rest) (kf : ¬ x ≤ 0 → fw_R g M Post nc ns w (pc + 3) L rest) : fw_R g M Post nc ns w pc L (.int x :: rest) := by
  intro hg s m args below meth c H locs cells slots ls cx hB hH hS e1 e2 hl
  exact lv_if_le hg.1 cx.2.2.2.2.1 hdg ht (fun hq => kt hq hg s m args below meth c H locs cells slots ls cx hB hH hS e1 e2 hl) (fun hq => kf hq hg s m args below meth c H locs cells slots ls cx hB hH hS e1 e2 hl)
theorem fr_icmp_le {x y : Int32} {off : Int} {tgt : Nat} (hdg : decode M.2.1 pc = .ok (.if_icmp .le off, 3)) (ht : (pc : Int) + off = (tgt : Int)) (kt : x ≤ y → fw_R g M Post nc ns w tgt L rest) (kf : ¬ x ≤ y → fw_R g M Post nc ns w (pc + 3) L rest) : fw_R g M Post nc ns w pc L (.int y :: .int x :: rest) := by
  intro hg s m args below meth c H locs cells slots ls cx hB hH hS e1 e2 hl
  exact lv_icmp_le hg.1 cx.2.2.2.2.1 hdg ht (fun hq => kt hq hg s m args below meth c H locs cells slots ls cx hB hH hS e1 e2 hl) (fun hq => kf hq hg s m args below meth c H locs cells slots ls cx hB hH hS e1 e2 hl)
theorem fr_goto {off : Int} {tgt : Nat} (hdg : decode M.2.1 pc = .ok (.goto off, 3)) (ht : (pc : Int) + off = (tgt : Int)) (k : fw_R g M Post nc ns w tgt L rest) : fw_R g M Post nc ns w pc L rest := by
  intro hg s m args below meth c H locs cells slots ls cx hB hH hS e1 e2 hl
  exact lv_goto hg.1 cx.2.2.2.2.1 hdg ht (k hg s m args below meth c H locs cells slots ls cx hB hH hS e1 e2 hl)
theorem fr_topi {x : Int32} (k : ∀ y : Int32, y = x → fw_R g M Post nc ns w pc L (.int y :: rest)) : fw_R g M Post nc ns w pc L (.int x :: rest) := by
  intro hg s m args below meth c H locs cells slots ls cx hB hH hS e1 e2 hl
  exact lv_topi (fun z hz => k z hz hg s m args below meth c H locs cells slots ls cx hB hH hS e1 e2 hl)
theorem fr_topl {x : Int64} (k : ∀ y : Int64, y = x → fw_R g M Post nc ns w pc L (.long y :: rest)) : fw_R g M Post nc ns w pc L (.long x :: rest) := by
  intro hg s m args below meth c H locs cells slots ls cx hB hH hS e1 e2 hl
  exact lv_topl (fun z hz => k z hz hg s m args below meth c H locs cells slots ls cx hB hH hS e1 e2 hl)
theorem fr_lookup {dflt : Int} {ps : Array (Int × Int)} {len : Nat} {x : Int32} {off : Int} {tgt : Nat} (hdg : decode M.2.1 pc = .ok (.lookupswitch dflt ps, len)) (hp : (ps.toList.zip (ps.toList.drop 1)).all (fun (a, next) => a.1 < next.1) = true) (ho : Op.lookupswitch.offset ps.toList dflt x.toInt = off) (ht : (pc : Int) + off = (tgt : Int)) (k : fw_R g M Post nc ns w tgt L rest) : fw_R g M Post nc ns w pc L (.int x :: rest) := by
  intro hg s m args below meth c H locs cells slots ls cx hB hH hS e1 e2 hl
  exact lv_lookup hg.1 cx.2.2.2.2.1 hdg hp ho ht (k hg s m args below meth c H locs cells slots ls cx hB hH hS e1 e2 hl)
theorem fr_tableOut {dflt lo hi : Int} {offs : Array Int} {len : Nat} {x : Int32} {tgt : Nat} (hdg : decode M.2.1 pc = .ok (.tableswitch dflt lo hi offs, len)) (h : x.toInt < lo ∨ hi < x.toInt) (ht : (pc : Int) + dflt = (tgt : Int)) (k : fw_R g M Post nc ns w tgt L rest) : fw_R g M Post nc ns w pc L (.int x :: rest) := by
  intro hg s m args below meth c H locs cells slots ls cx hB hH hS e1 e2 hl
  exact lv_tableOut hg.1 cx.2.2.2.2.1 hdg h ht (k hg s m args below meth c H locs cells slots ls cx hB hH hS e1 e2 hl)
theorem fr_tableIn {dflt lo hi : Int} {offs : Array Int} {len : Nat} {x : Int32} {off : Int} {tgt : Nat} (hdg : decode M.2.1 pc = .ok (.tableswitch dflt lo hi offs, len)) (h1 : ¬ x.toInt < lo) (h2 : ¬ hi < x.toInt) (ho : offs[(x.toInt - lo).toNat]? = some off) (ht : (pc : Int) + off = (tgt : Int)) (k : fw_R g M Post nc ns w tgt L rest) : fw_R g M Post nc ns w pc L (.int x :: rest) := by
  intro hg s m args below meth c H locs cells slots ls cx hB hH hS e1 e2 hl
  exact lv_tableIn hg.1 cx.2.2.2.2.1 hdg h1 h2 ho ht (k hg s m args below meth c H locs cells slots ls cx hB hH hS e1 e2 hl)
theorem fr_ifnonnull {x : Nat} {off : Int} {tgt : Nat} (hdg : decode M.2.1 pc = .ok (.ifnonnull off, 3)) (ht : (pc : Int) + off = (tgt : Int)) (k : fw_R g M Post nc ns w tgt L rest) : fw_R g M Post nc ns w pc L (.ref x :: rest) := by
  intro hg s m args below meth c H locs cells slots ls cx hB hH hS e1 e2 hl
  exact lv_ifnonnull hg.1 cx.2.2.2.2.1 hdg ht (k hg s m args below meth c H locs cells slots ls cx hB hH hS e1 e2 hl)
theorem fr_ifnull {x : Nat} {off : Int} (hdg : decode M.2.1 pc = .ok (.ifnull off, 3)) (k : fw_R g M Post nc ns w (pc + 3) L rest) : fw_R g M Post nc ns w pc L (.ref x :: rest) := by
  intro hg s m args below meth c H locs cells slots ls cx hB hH hS e1 e2 hl
  exact lv_ifnull hg.1 cx.2.2.2.2.1 hdg (k hg s m args below meth c H locs cells slots ls cx hB hH hS e1 e2 hl)
theorem fr_null (hdg : decode M.2.1 pc = .ok (.aconst_null, 1)) (k : fw_R g M Post nc ns w (pc + 1) L (.null :: rest)) : fw_R g M Post nc ns w pc L rest := by
  intro hg s m args below meth c H locs cells slots ls cx hB hH hS e1 e2 hl
  exact lv_null hg.1 cx.2.2.2.2.1 hdg (k hg s m args below meth c H locs cells slots ls cx hB hH hS e1 e2 hl)
theorem fr_ifnullN {off : Int} {tgt : Nat} (hdg : decode M.2.1 pc = .ok (.ifnull off, 3)) (ht : (pc : Int) + off = (tgt : Int)) (k : fw_R g M Post nc ns w tgt L rest) : fw_R g M Post nc ns w pc L (.null :: rest) := by
  intro hg s m args below meth c H locs cells slots ls cx hB hH hS e1 e2 hl
  exact lv_ifnullN hg.1 cx.2.2.2.2.1 hdg ht (k hg s m args below meth c H locs cells slots ls cx hB hH hS e1 e2 hl)
theorem fr_ifnonnullN {off : Int} (hdg : decode M.2.1 pc = .ok (.ifnonnull off, 3)) (k : fw_R g M Post nc ns w (pc + 3) L rest) : fw_R g M Post nc ns w pc L (.null :: rest) := by
  intro hg s m args below meth c H locs cells slots ls cx hB hH hS e1 e2 hl
  exact lv_ifnonnullN hg.1 cx.2.2.2.2.1 hdg (k hg s m args below meth c H locs cells slots ls cx hB hH hS e1 e2 hl)
theorem fr_acmp_eq {rx ry : Option Nat} {off : Int} {tgt : Nat} (hdg : decode M.2.1 pc = .ok (.if_acmp .eq off, 3)) (ht : (pc : Int) + off = (tgt : Int)) (kt : rx = ry → fw_R g M Post nc ns w tgt L rest) (kf : ¬ rx = ry → fw_R g M Post nc ns w (pc + 3) L rest) : fw_R g M Post nc ns w pc L (va_rf ry :: va_rf rx :: rest) := by
  intro hg s m args below meth c H locs cells slots ls cx hB hH hS e1 e2 hl
  exact lv_acmp_eq hg.1 cx.2.2.2.2.1 hdg ht (fun hq => kt hq hg s m args below meth c H locs cells slots ls cx hB hH hS e1 e2 hl) (fun hq => kf hq hg s m args below meth c H locs cells slots ls cx hB hH hS e1 e2 hl)
theorem fr_acmp_ne {rx ry : Option Nat} {off : Int} {tgt : Nat} (hdg : decode M.2.1 pc = .ok (.if_acmp .ne off, 3)) (ht : (pc : Int) + off = (tgt : Int)) (kt : ¬ rx = ry → fw_R g M Post nc ns w tgt L rest) (kf : rx = ry → fw_R g M Post nc ns w (pc + 3) L rest) : fw_R g M Post nc ns w pc L (va_rf ry :: va_rf rx :: rest) := by
  intro hg s m args below meth c H locs cells slots ls cx hB hH hS e1 e2 hl
  exact lv_acmp_ne hg.1 cx.2.2.2.2.1 hdg ht (fun hq => kt hq hg s m args below meth c H locs cells slots ls cx hB hH hS e1 e2 hl) (fun hq => kf hq hg s m args below meth c H locs cells slots ls cx hB hH hS e1 e2 hl)
theorem fr_castN {index : Nat} (hdg : decode M.2.1 pc = .ok (.checkcast index, 3)) (k : fw_R g M Post nc ns w (pc + 3) L (.null :: rest)) : fw_R g M Post nc ns w pc L (.null :: rest) := by
  intro hg s m args below meth c H locs cells slots ls cx hB hH hS e1 e2 hl
  exact lv_castN hg.1 cx.2.2.2.2.1 hdg (k hg s m args below meth c H locs cells slots ls cx hB hH hS e1 e2 hl)
theorem fr_lcmp {x y : Int64} (hdg : decode M.2.1 pc = .ok (.lcmp, 1)) (k : fw_R g M Post nc ns w (pc + 1) L (.int (lg_cmp x y) :: rest)) : fw_R g M Post nc ns w pc L (.long y :: .long x :: rest) := by
  intro hg s m args below meth c H locs cells slots ls cx hB hH hS e1 e2 hl
  exact W.lcmp hg.1 cx.2.2.2.2.1 hdg (k hg s m args below meth c H locs cells slots ls cx hB hH hS e1 e2 hl)
theorem fw_loc {ls : Array Slot} {nL i : Nat} {v : Value} (h : lv_has ls nL L) (hl : L.find? (fun q => q.1 == i) = some (i, v)) : ls[i]? = some (.val v) := h.2.2 (i, v) (List.mem_of_find?_eq_some hl)
theorem fr_iload_n {k : Fin 4} {i : Nat} {x : Int32} (hdg : decode M.2.1 pc = .ok (.iload_n k, 1)) (hi : (k : Nat) = i) (hv : L.find? (fun q => q.1 == i) = some (i, .int x)) (kk : fw_R g M Post nc ns w (pc + 1) L (.int x :: rest)) : fw_R g M Post nc ns w pc L rest := by
  intro hg s m args below meth c H locs cells slots ls cx hB hH hS e1 e2 hl
  exact lv_iload_n hg.1 cx.2.2.2.2.1 hdg hi (fw_loc hl hv) (kk hg s m args below meth c H locs cells slots ls cx hB hH hS e1 e2 hl)
theorem fr_iload {i : Nat} {x : Int32} (hdg : decode M.2.1 pc = .ok (.iload i, 2)) (hv : L.find? (fun q => q.1 == i) = some (i, .int x)) (kk : fw_R g M Post nc ns w (pc + 2) L (.int x :: rest)) : fw_R g M Post nc ns w pc L rest := by
  intro hg s m args below meth c H locs cells slots ls cx hB hH hS e1 e2 hl
  exact lv_iload hg.1 cx.2.2.2.2.1 hdg (fw_loc hl hv) (kk hg s m args below meth c H locs cells slots ls cx hB hH hS e1 e2 hl)
theorem fr_lload_n {k : Fin 4} {i : Nat} {x : Int64} (hdg : decode M.2.1 pc = .ok (.lload_n k, 1)) (hi : (k : Nat) = i) (hv : L.find? (fun q => q.1 == i) = some (i, .long x)) (kk : fw_R g M Post nc ns w (pc + 1) L (.long x :: rest)) : fw_R g M Post nc ns w pc L rest := by
  intro hg s m args below meth c H locs cells slots ls cx hB hH hS e1 e2 hl
  exact lv_lload_n hg.1 cx.2.2.2.2.1 hdg hi (fw_loc hl hv) (kk hg s m args below meth c H locs cells slots ls cx hB hH hS e1 e2 hl)
theorem fr_lload {i : Nat} {x : Int64} (hdg : decode M.2.1 pc = .ok (.lload i, 2)) (hv : L.find? (fun q => q.1 == i) = some (i, .long x)) (kk : fw_R g M Post nc ns w (pc + 2) L (.long x :: rest)) : fw_R g M Post nc ns w pc L rest := by
  intro hg s m args below meth c H locs cells slots ls cx hB hH hS e1 e2 hl
  exact lv_lload hg.1 cx.2.2.2.2.1 hdg (fw_loc hl hv) (kk hg s m args below meth c H locs cells slots ls cx hB hH hS e1 e2 hl)
theorem fr_aload_n {k : Fin 4} {i : Nat} {x : Nat} (hdg : decode M.2.1 pc = .ok (.aload_n k, 1)) (hi : (k : Nat) = i) (hv : L.find? (fun q => q.1 == i) = some (i, .ref x)) (kk : fw_R g M Post nc ns w (pc + 1) L (.ref x :: rest)) : fw_R g M Post nc ns w pc L rest := by
  intro hg s m args below meth c H locs cells slots ls cx hB hH hS e1 e2 hl
  exact lv_aload_n hg.1 cx.2.2.2.2.1 hdg hi (fw_loc hl hv) (kk hg s m args below meth c H locs cells slots ls cx hB hH hS e1 e2 hl)
theorem fr_aload {i : Nat} {x : Nat} (hdg : decode M.2.1 pc = .ok (.aload i, 2)) (hv : L.find? (fun q => q.1 == i) = some (i, .ref x)) (kk : fw_R g M Post nc ns w (pc + 2) L (.ref x :: rest)) : fw_R g M Post nc ns w pc L rest := by
  intro hg s m args below meth c H locs cells slots ls cx hB hH hS e1 e2 hl
  exact lv_aload hg.1 cx.2.2.2.2.1 hdg (fw_loc hl hv) (kk hg s m args below meth c H locs cells slots ls cx hB hH hS e1 e2 hl)
theorem fr_aload_nN {k : Fin 4} {i : Nat} (hdg : decode M.2.1 pc = .ok (.aload_n k, 1)) (hi : (k : Nat) = i) (hv : L.find? (fun q => q.1 == i) = some (i, .null)) (kk : fw_R g M Post nc ns w (pc + 1) L (.null :: rest)) : fw_R g M Post nc ns w pc L rest := by
  intro hg s m args below meth c H locs cells slots ls cx hB hH hS e1 e2 hl
  exact lv_aload_nN hg.1 cx.2.2.2.2.1 hdg hi (fw_loc hl hv) (kk hg s m args below meth c H locs cells slots ls cx hB hH hS e1 e2 hl)
theorem fr_aloadN {i : Nat} (hdg : decode M.2.1 pc = .ok (.aload i, 2)) (hv : L.find? (fun q => q.1 == i) = some (i, .null)) (kk : fw_R g M Post nc ns w (pc + 2) L (.null :: rest)) : fw_R g M Post nc ns w pc L rest := by
  intro hg s m args below meth c H locs cells slots ls cx hB hH hS e1 e2 hl
  exact lv_aloadN hg.1 cx.2.2.2.2.1 hdg (fw_loc hl hv) (kk hg s m args below meth c H locs cells slots ls cx hB hH hS e1 e2 hl)
def fw_ins (i : Nat) (v : Value) : List (Nat × Value) → List (Nat × Value)
  | [] => [(i, v)]
  | q :: t => if q.1 < i then q :: fw_ins i v t else (i, v) :: q :: t
theorem fw_ins_mem {i : Nat} {v : Value} {q : Nat × Value} : ∀ {l : List (Nat × Value)}, q ∈ fw_ins i v l → q ∈ (i, v) :: l
  | [], h => h
  | r :: t, h => by
    unfold fw_ins at h
    by_cases hr : r.1 < i
    · rw [if_pos hr] at h
      rcases List.mem_cons.mp h with h1 | h1
      · exact List.mem_cons_of_mem _ (h1 ▸ List.mem_cons_self)
      · rcases List.mem_cons.mp (fw_ins_mem h1) with h2 | h2
        · exact h2 ▸ List.mem_cons_self
        · exact List.mem_cons_of_mem _ (List.mem_cons_of_mem _ h2)
    · rw [if_neg hr] at h
      exact h
theorem fw_hins {ls : Array Slot} {n i : Nat} {v : Value} {l : List (Nat × Value)} (h : lv_has ls n ((i, v) :: l)) : lv_has ls n (fw_ins i v l) := ⟨h.1, h.2.1, fun q hq => h.2.2 q (fw_ins_mem hq)⟩
abbrev fw_f1 (i : Nat) (l : List (Nat × Value)) : List (Nat × Value) := l.filter (fun q => !(q.1 == i) && !(q.1 + 1 == i && q.2.category == 2))
abbrev fw_f2 (i : Nat) (l : List (Nat × Value)) : List (Nat × Value) := l.filter (fun q => !(q.1 == i) && (!(q.1 == i + 1) && !(q.1 + 1 == i && q.2.category == 2)))
theorem fr_istore_n {k : Fin 4} {i : Nat} {x : Int32} {L2 : List (Nat × Value)} (hdg : decode M.2.1 pc = .ok (.istore_n k, 1)) (hi : (k : Nat) = i) (hn : i < M.2.2.1) (hL : fw_ins i (.int x) (fw_f1 i L) = L2) (kk : fw_R g M Post nc ns w (pc + 1) L2 rest) : fw_R g M Post nc ns w pc L (.int x :: rest) := by
  intro hg s m args below meth c H locs cells slots ls cx hB hH hS e1 e2 hl
  exact lv_istore_n hg.1 cx.2.2.2.2.1 hdg hi hl hn rfl (fun ls2 h => kk hg s m args below meth c H locs cells slots ls2 cx hB hH hS e1 e2 (by rw [← hL]; exact fw_hins h))
theorem fr_istore {i : Nat} {x : Int32} {L2 : List (Nat × Value)} (hdg : decode M.2.1 pc = .ok (.istore i, 2)) (hn : i < M.2.2.1) (hL : fw_ins i (.int x) (fw_f1 i L) = L2) (kk : fw_R g M Post nc ns w (pc + 2) L2 rest) : fw_R g M Post nc ns w pc L (.int x :: rest) := by
  intro hg s m args below meth c H locs cells slots ls cx hB hH hS e1 e2 hl
  exact lv_istore hg.1 cx.2.2.2.2.1 hdg hl hn rfl (fun ls2 h => kk hg s m args below meth c H locs cells slots ls2 cx hB hH hS e1 e2 (by rw [← hL]; exact fw_hins h))
theorem fr_lstore_n {k : Fin 4} {i : Nat} {x : Int64} {L2 : List (Nat × Value)} (hdg : decode M.2.1 pc = .ok (.lstore_n k, 1)) (hi : (k : Nat) = i) (hn : i + 1 < M.2.2.1) (hL : fw_ins i (.long x) (fw_f2 i L) = L2) (kk : fw_R g M Post nc ns w (pc + 1) L2 rest) : fw_R g M Post nc ns w pc L (.long x :: rest) := by
  intro hg s m args below meth c H locs cells slots ls cx hB hH hS e1 e2 hl
  exact lv_lstore_n hg.1 cx.2.2.2.2.1 hdg hi hl hn rfl (fun ls2 h => kk hg s m args below meth c H locs cells slots ls2 cx hB hH hS e1 e2 (by rw [← hL]; exact fw_hins h))
theorem fr_lstore {i : Nat} {x : Int64} {L2 : List (Nat × Value)} (hdg : decode M.2.1 pc = .ok (.lstore i, 2)) (hn : i + 1 < M.2.2.1) (hL : fw_ins i (.long x) (fw_f2 i L) = L2) (kk : fw_R g M Post nc ns w (pc + 2) L2 rest) : fw_R g M Post nc ns w pc L (.long x :: rest) := by
  intro hg s m args below meth c H locs cells slots ls cx hB hH hS e1 e2 hl
  exact lv_lstore hg.1 cx.2.2.2.2.1 hdg hl hn rfl (fun ls2 h => kk hg s m args below meth c H locs cells slots ls2 cx hB hH hS e1 e2 (by rw [← hL]; exact fw_hins h))
theorem fr_astore_n {k : Fin 4} {i : Nat} {x : Nat} {L2 : List (Nat × Value)} (hdg : decode M.2.1 pc = .ok (.astore_n k, 1)) (hi : (k : Nat) = i) (hn : i < M.2.2.1) (hL : fw_ins i (.ref x) (fw_f1 i L) = L2) (kk : fw_R g M Post nc ns w (pc + 1) L2 rest) : fw_R g M Post nc ns w pc L (.ref x :: rest) := by
  intro hg s m args below meth c H locs cells slots ls cx hB hH hS e1 e2 hl
  exact lv_astore_n hg.1 cx.2.2.2.2.1 hdg hi hl hn rfl (fun ls2 h => kk hg s m args below meth c H locs cells slots ls2 cx hB hH hS e1 e2 (by rw [← hL]; exact fw_hins h))
theorem fr_astore {i : Nat} {x : Nat} {L2 : List (Nat × Value)} (hdg : decode M.2.1 pc = .ok (.astore i, 2)) (hn : i < M.2.2.1) (hL : fw_ins i (.ref x) (fw_f1 i L) = L2) (kk : fw_R g M Post nc ns w (pc + 2) L2 rest) : fw_R g M Post nc ns w pc L (.ref x :: rest) := by
  intro hg s m args below meth c H locs cells slots ls cx hB hH hS e1 e2 hl
  exact lv_astore hg.1 cx.2.2.2.2.1 hdg hl hn rfl (fun ls2 h => kk hg s m args below meth c H locs cells slots ls2 cx hB hH hS e1 e2 (by rw [← hL]; exact fw_hins h))
theorem fr_astore_nN {k : Fin 4} {i : Nat} {L2 : List (Nat × Value)} (hdg : decode M.2.1 pc = .ok (.astore_n k, 1)) (hi : (k : Nat) = i) (hn : i < M.2.2.1) (hL : fw_ins i .null (fw_f1 i L) = L2) (kk : fw_R g M Post nc ns w (pc + 1) L2 rest) : fw_R g M Post nc ns w pc L (.null :: rest) := by
  intro hg s m args below meth c H locs cells slots ls cx hB hH hS e1 e2 hl
  exact lv_astore_nN hg.1 cx.2.2.2.2.1 hdg hi hl hn rfl (fun ls2 h => kk hg s m args below meth c H locs cells slots ls2 cx hB hH hS e1 e2 (by rw [← hL]; exact fw_hins h))
theorem fr_astoreN {i : Nat} {L2 : List (Nat × Value)} (hdg : decode M.2.1 pc = .ok (.astore i, 2)) (hn : i < M.2.2.1) (hL : fw_ins i .null (fw_f1 i L) = L2) (kk : fw_R g M Post nc ns w (pc + 2) L2 rest) : fw_R g M Post nc ns w pc L (.null :: rest) := by
  intro hg s m args below meth c H locs cells slots ls cx hB hH hS e1 e2 hl
  exact lv_astoreN hg.1 cx.2.2.2.2.1 hdg hl hn rfl (fun ls2 h => kk hg s m args below meth c H locs cells slots ls2 cx hB hH hS e1 e2 (by rw [← hL]; exact fw_hins h))
theorem fw_idx {i : Nat} {v : Value} : ∀ {l : List (Nat × Value)}, l.find? (fun q => q.1 == i) = some (i, v) → ∃ k : Nat, l[k]? = some (i, v) := fun h => List.getElem?_of_mem (List.mem_of_find?_eq_some h)
theorem fr_iinc {i : Nat} {n : Int} {x v : Int32} {L2 : List (Nat × Value)} (hdg : decode M.2.1 pc = .ok (.iinc i n, 3)) (hx : L.find? (fun q => q.1 == i) = some (i, .int x)) (hv : x + Int32.ofInt n = v) (hn : i < M.2.2.1) (hL : fw_ins i (.int v) (fw_f1 i L) = L2) (kk : fw_R g M Post nc ns w (pc + 3) L2 rest) : fw_R g M Post nc ns w pc L rest := by
  intro hg s m args below meth c H locs cells slots ls cx hB hH hS e1 e2 hl
  obtain ⟨k0, hk0⟩ := fw_idx hx
  exact lv_iinc hg.1 cx.2.2.2.2.1 hdg hl hk0 hv hn rfl (fun ls2 h => kk hg s m args below meth c H locs cells slots ls2 cx hB hH hS e1 e2 (by rw [← hL]; exact fw_hins h))
theorem fr_L {L2 : List (Nat × Value)} (h : ∀ q ∈ L2, q ∈ L) (kk : fw_R g M Post nc ns w pc L2 rest) : fw_R g M Post nc ns w pc L rest := by
  intro hg s m args below meth c H locs cells slots ls cx hB hH hS e1 e2 hl
  exact kk hg s m args below meth c H locs cells slots ls cx hB hH hS e1 e2 ⟨hl.1, hl.2.1, fun q hq => hl.2.2 q (h q hq)⟩
theorem fr_nc {nc2 ns2 : Nat} (h1 : nc2 ≤ nc) (h2 : ns2 ≤ ns) (kk : fw_R g M Post nc2 ns2 w pc L rest) : fw_R g M Post nc ns w pc L rest := by
  intro hg s m args below meth c H locs cells slots ls cx hB hH hS e1 e2 hl
  exact kk hg s m args below meth c H locs cells slots ls cx hB hH hS (by omega) (by omega) hl
theorem fr_post {P2 : fw_O → fw_W → Prop} (h : ∀ r u, P2 r u → Post r u) (kk : fw_R g M P2 nc ns w pc L rest) : fw_R g M Post nc ns w pc L rest := by
  intro hg s m args below meth c H locs cells slots ls cx hB hH hS e1 e2 hl
  refine fw_mono (fun t ht => ?_) (kk hg s m args below meth c H locs cells slots ls cx hB hH hS e1 e2 hl)
  obtain ⟨o, r, u, Ls, a1, a2, a3, a4, a5, a6, a7, a8, a9⟩ := ht
  exact ⟨o, r, u, Ls, a1, a2, a3, a4, a5, a6, a7, a8, h r u a9⟩
end FR
