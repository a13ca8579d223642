/-! THE CHECK of an instruction against its bytes -/
def nxk (i : aI) (pc len : Nat) : Bool := Nat.beq i.2.1 (pc + len)
theorem nxk_s {i : aI} {pc len : Nat} (h : nxk i pc len = true) : i.2.1 = pc + len := Nat.eq_of_beq_eq_true h
def tgk (t pc : Nat) (off : Int) : Bool := decide ((pc : Int) + off = (t : Int))
def dk (y pc : Nat) (I : Instr) (i : aI) : Bool := decide (decode (mby y) pc = .ok (I, 1)) && nxk i pc 1
theorem dk_s {y pc : Nat} {I : Instr} {i : aI} (h : dk y pc I i = true) : decode (mby y) pc = .ok (I, 1) ∧ i.2.1 = pc + 1 := by
  unfold dk at h
  rw [Bool.and_eq_true] at h
  exact ⟨of_decide_eq_true h.1, nxk_s h.2⟩
def binC : Nat → Instr
  | 96 => .iadd
  | 100 => .isub
  | 104 => .imul
  | 108 => .idiv
  | 112 => .irem
  | 120 => .ishl
  | 122 => .ishr
  | 126 => .iand
  | 128 => .ior
  | _ => .nop
def binCJ : Nat → Instr
  | 97 => .ladd
  | 101 => .lsub
  | 105 => .lmul
  | 109 => .ldiv
  | _ => .nop
def unC : Nat → Instr
  | 116 => .ineg
  | 145 => .i2b
  | 146 => .i2c
  | _ => .nop
def ck18 (y pc : Nat) (i : aI) : Bool := match decode (mby y) pc with
  | .ok (.iconst n, 1) => nxk i pc 1 && decide (Int32.ofInt n = iI i.2.2.2.2.1)
  | .ok (.bipush n, 2) => nxk i pc 2 && decide ((Int8.ofInt n).toInt32 = iI i.2.2.2.2.1)
  | .ok (.sipush n, 3) => nxk i pc 3 && decide ((Int16.ofInt n).toInt32 = iI i.2.2.2.2.1)
  | .ok (.ldc idx, 2) => nxk i pc 2 && inKI (mow y) idx i.2.2.2.2.1
  | .ok (.ldc_w idx, 3) => nxk i pc 3 && inKI (mow y) idx i.2.2.2.2.1
  | _ => false
def ck19 (y pc : Nat) (i : aI) : Bool := match decode (mby y) pc with
  | .ok (.ldc idx, 2) => nxk i pc 2 && (Nat.beq (mow y) 12 && ((Nat.beq idx 69 && Nat.beq i.2.2.1 1) || (Nat.beq idx 59 && Nat.beq i.2.2.1 3)))
  | _ => false
def ck20 (y pc : Nat) (i : aI) : Bool := match decode (mby y) pc with
  | .ok (.lconst n, 1) => nxk i pc 1 && decide (Int64.ofNat (n : Nat) = lI i.2.2.2.2.1)
  | .ok (.ldc2_w idx, 3) => nxk i pc 3 && inKL (mow y) idx i.2.2.2.2.1
  | _ => false
def ck21 (y pc : Nat) (i : aI) : Bool := match decode (mby y) pc with
  | .ok (.iload_n k, 1) => nxk i pc 1 && Nat.beq k.val i.2.2.1
  | .ok (.iload k, 2) => nxk i pc 2 && Nat.beq k i.2.2.1
  | _ => false
def ck22 (y pc : Nat) (i : aI) : Bool := match decode (mby y) pc with
  | .ok (.lload_n k, 1) => nxk i pc 1 && Nat.beq k.val i.2.2.1
  | .ok (.lload k, 2) => nxk i pc 2 && Nat.beq k i.2.2.1
  | _ => false
def ck25 (y pc : Nat) (i : aI) : Bool := match decode (mby y) pc with
  | .ok (.aload_n k, 1) => nxk i pc 1 && Nat.beq k.val i.2.2.1
  | .ok (.aload k, 2) => nxk i pc 2 && Nat.beq k i.2.2.1
  | _ => false
def ck54 (y pc : Nat) (i : aI) : Bool := match decode (mby y) pc with
  | .ok (.istore_n k, 1) => nxk i pc 1 && Nat.beq k.val i.2.2.1
  | .ok (.istore k, 2) => nxk i pc 2 && Nat.beq k i.2.2.1
  | _ => false
def ck55 (y pc : Nat) (i : aI) : Bool := match decode (mby y) pc with
  | .ok (.lstore_n k, 1) => nxk i pc 1 && Nat.beq k.val i.2.2.1
  | .ok (.lstore k, 2) => nxk i pc 2 && Nat.beq k i.2.2.1
  | _ => false
def ck58 (y pc : Nat) (i : aI) : Bool := match decode (mby y) pc with
  | .ok (.astore_n k, 1) => nxk i pc 1 && Nat.beq k.val i.2.2.1
  | .ok (.astore k, 2) => nxk i pc 2 && Nat.beq k i.2.2.1
  | _ => false
def ck132 (y pc : Nat) (i : aI) : Bool := match decode (mby y) pc with
  | .ok (.iinc k n, 3) => nxk i pc 3 && (Nat.beq k i.2.2.1 && decide (n = i.2.2.2.2.1))
  | _ => false
def ck153 (y pc : Nat) (i : aI) : Bool := match decode (mby y) pc with
  | .ok (.ifCond .eq off, 3) => nxk i pc 3 && (tgk i.2.2.1 pc off && Nat.beq i.2.2.2.1 0)
  | .ok (.ifCond .ne off, 3) => nxk i pc 3 && (tgk i.2.2.1 pc off && Nat.beq i.2.2.2.1 1)
  | .ok (.ifCond .lt off, 3) => nxk i pc 3 && (tgk i.2.2.1 pc off && Nat.beq i.2.2.2.1 2)
  | .ok (.ifCond .ge off, 3) => nxk i pc 3 && (tgk i.2.2.1 pc off && Nat.beq i.2.2.2.1 3)
  | .ok (.ifCond .gt off, 3) => nxk i pc 3 && (tgk i.2.2.1 pc off && Nat.beq i.2.2.2.1 4)
  | .ok (.ifCond .le off, 3) => nxk i pc 3 && (tgk i.2.2.1 pc off && Nat.beq i.2.2.2.1 5)
  | _ => false
def ck159 (y pc : Nat) (i : aI) : Bool := match decode (mby y) pc with
  | .ok (.if_icmp .eq off, 3) => nxk i pc 3 && (tgk i.2.2.1 pc off && Nat.beq i.2.2.2.1 0)
  | .ok (.if_icmp .ne off, 3) => nxk i pc 3 && (tgk i.2.2.1 pc off && Nat.beq i.2.2.2.1 1)
  | .ok (.if_icmp .lt off, 3) => nxk i pc 3 && (tgk i.2.2.1 pc off && Nat.beq i.2.2.2.1 2)
  | .ok (.if_icmp .ge off, 3) => nxk i pc 3 && (tgk i.2.2.1 pc off && Nat.beq i.2.2.2.1 3)
  | .ok (.if_icmp .gt off, 3) => nxk i pc 3 && (tgk i.2.2.1 pc off && Nat.beq i.2.2.2.1 4)
  | .ok (.if_icmp .le off, 3) => nxk i pc 3 && (tgk i.2.2.1 pc off && Nat.beq i.2.2.2.1 5)
  | _ => false
def ck167 (y pc : Nat) (i : aI) : Bool := match decode (mby y) pc with
  | .ok (.goto off, 3) => tgk i.2.2.1 pc off
  | _ => false
def ck198 (y pc : Nat) (i : aI) : Bool := match decode (mby y) pc with
  | .ok (.ifnull off, 3) => nxk i pc 3 && tgk i.2.2.1 pc off
  | _ => false
def zipT (pc : Nat) : List (Int × Nat) → Int → List Int → Bool
  | [], _, [] => true
  | (k, t) :: r, lo, o :: os => decide (k = lo) && (tgk t pc o && zipT pc r (lo + 1) os)
  | _, _, _ => false
def zipL (pc : Nat) : List (Int × Nat) → List (Int × Int) → Bool
  | [], [] => true
  | (k, t) :: r, (k2, o) :: os => decide (k = k2) && (tgk t pc o && zipL pc r os)
  | _, _ => false
def ck170 (y pc : Nat) (i : aI) : Bool := match decode (mby y) pc with
  | .ok (.tableswitch d lo hi offs, _) => tgk i.2.2.1 pc d && (zipT pc i.2.2.2.2.2 lo offs.toList && decide (hi + 1 = lo + (offs.toList.length : Int)))
  | .ok (.lookupswitch d ps, _) => tgk i.2.2.1 pc d && (zipL pc i.2.2.2.2.2 ps.toList && (ps.toList.zip (ps.toList.drop 1)).all (fun (a, nx) => decide (a.1 < nx.1)))
  | _ => false
def ckF (y pc : Nat) (i : aI) : Bool := Nat.ble (i.2.2.1 + 1) 12 && (Nat.ble (i.2.2.2.1 + 1) (kN i.2.2.1) && (nxk i pc 3 && true))
def ck180 (y pc : Nat) (i : aI) (k : Nat) : Bool := match decode (mby y) pc with
  | .ok (.getfield idx, 3) => ckF y pc i && (inFL (mow y) idx i.2.2.1 i.2.2.2.1 && (match k with
    | 0 => Nat.ble (fk i.2.2.1 i.2.2.2.1) 1
    | _ => Nat.beq (fk i.2.2.1 i.2.2.2.1) k))
  | _ => false
def ck181 (y pc : Nat) (i : aI) (k : Nat) : Bool := match decode (mby y) pc with
  | .ok (.putfield idx, 3) => ckF y pc i && (inFL (mow y) idx i.2.2.1 i.2.2.2.1 && (Nat.beq (fk i.2.2.1 i.2.2.2.1) k && ((kT i.2.2.1 i.2.2.2.1).2.2.2 == false || (decide ((mnm y).name = "<init>") && decide (onm (mow y) = kC i.2.2.1)))))
  | _ => false
def ckStr (y pc : Nat) (i : aI) (k : Nat) : Bool := match decode (mby y) pc with
  | .ok (.getfield idx, 3) => nxk i pc 3 && (Nat.beq (mow y) 1 && Nat.beq idx k)
  | _ => false
def ckSt (y pc : Nat) (i : aI) (k : Nat) : Bool := match decode (mby y) pc with
  | .ok (.getstatic idx, 3) => nxk i pc 3 && (Nat.beq (mow y) 1 && Nat.beq idx k)
  | _ => false
def atC : Nat → ArrayType
  | 1 => .int
  | 2 => .boolean
  | 3 => .byte
  | _ => .long
def ck188 (y pc : Nat) (i : aI) : Bool := match decode (mby y) pc with
  | .ok (.newarray t, 2) => nxk i pc 2 && (decide (t = atC i.2.2.1) && (Nat.ble 1 i.2.2.1 && Nat.ble i.2.2.1 4))
  | _ => false
def ck187 (y pc : Nat) (i : aI) : Bool := match decode (mby y) pc with
  | .ok (.new idx, 3) => nxk i pc 3 && (inCL (mow y) idx i.2.2.1 && (Nat.ble (i.2.2.1 + 1) 12 && Nat.beq i.2.2.2.1 (kN i.2.2.1)))
  | _ => false
def ck189 (y pc : Nat) (i : aI) : Bool := match decode (mby y) pc with
  | .ok (.anewarray idx, 3) => nxk i pc 3 && inCL (mow y) idx 1
  | _ => false
def ck197 (y pc : Nat) (i : aI) : Bool := match decode (mby y) pc with
  | .ok (.multianewarray idx 2, 4) => nxk i pc 4 && (Nat.beq (mow y) 7 && Nat.beq idx 33)
  | _ => false
def ckY (y : Nat) (i : aI) : Bool := Nat.ble 1 i.2.2.1 && (Nat.ble (i.2.2.1 + 1) 270 && decide (i.2.2.2.2.1 = (mml i.2.2.1 : Int)))
def ck182 (y pc : Nat) (i : aI) : Bool := ckY y i && (match decode (mby y) pc with
  | .ok (.invokestatic idx, 3) => nxk i pc 3 && (inML (mow y) idx i.2.2.1 && (Nat.beq (mkd i.2.2.1) 0 && Nat.beq i.2.2.2.1 (mnp i.2.2.1)))
  | _ => false)
def ck1182 (y pc : Nat) (i : aI) : Bool := ckY y i && (match decode (mby y) pc with
  | .ok (.invokevirtual idx, 3) => nxk i pc 3 && (inML (mow y) idx i.2.2.1 && (Nat.beq (mkd i.2.2.1) 1 && (Nat.beq (i.2.2.2.1 / 100) (mnp i.2.2.1 + 1) && (Nat.ble (i.2.2.2.1 % 100 + 1) 12 && Nat.beq (mow i.2.2.1) (i.2.2.2.1 % 100 + 5)))))
  | _ => false)
def ck2182 (y pc : Nat) (i : aI) : Bool := ckY y i && (match decode (mby y) pc with
  | .ok (.invokevirtual idx, 3) => nxk i pc 3 && (inML (mow y) idx i.2.2.1 && (Nat.beq (mkd i.2.2.1) 1 && (Nat.beq i.2.2.2.1 (mnp i.2.2.1 + 1) && Nat.beq (mow i.2.2.1) 1)))
  | _ => false)
def ck3182 (y pc : Nat) (i : aI) : Bool := ckY y i && (match decode (mby y) pc with
  | .ok (.invokespecial idx, 3) => nxk i pc 3 && (((inML (mow y) idx i.2.2.1 && Nat.beq (mkd i.2.2.1) 2) || (inMN (mow y) idx i.2.2.1 && Nat.beq (mkd i.2.2.1) 3)) && Nat.beq i.2.2.2.1 (mnp i.2.2.1 + 1))
  | _ => false)
def ck183 (y pc : Nat) (i : aI) : Bool := match decode (mby y) pc with
  | .ok (.invokespecial idx, 3) => nxk i pc 3 && OId.any (fun q => Nat.beq q.1 (mow y) && Nat.beq q.2.1 idx)
  | _ => false
def ckMM (y pc : Nat) (i : aI) (k : Nat) : Bool := match decode (mby y) pc with
  | .ok (.invokestatic idx, 3) => nxk i pc 3 && MMd.any (fun q => Nat.beq q.1 (mow y) && (Nat.beq q.2.1 idx && Nat.beq q.2.2.1 k))
  | _ => false
def ckAC (y pc : Nat) (i : aI) : Bool := match decode (mby y) pc with
  | .ok (.invokestatic idx, 3) => nxk i pc 3 && (Nat.beq (mow y) 11 && Nat.beq idx 45)
  | _ => false
def ck172 (y pc : Nat) (i : aI) : Bool := decide (decode (mby y) pc = .ok (.ireturn, 1)) && (match mrt y with
  | some .int => Nat.beq i.2.2.1 0
  | some .boolean => Nat.beq i.2.2.1 1
  | some .char => Nat.beq i.2.2.1 2
  | some .byte => Nat.beq i.2.2.1 3
  | _ => false)
def ckI (y pc : Nat) (i : aI) : Bool := match i.1 with
  | 1 => dk y pc .aconst_null i
  | 2 => dk y pc (binC i.2.2.1) i
  | 3 => dk y pc (binCJ i.2.2.1) i
  | 4 => dk y pc (unC i.2.2.1) i
  | 18 => ck18 y pc i
  | 19 => ck19 y pc i
  | 20 => ck20 y pc i
  | 21 => ck21 y pc i
  | 22 => ck22 y pc i
  | 25 => ck25 y pc i
  | 46 => dk y pc .iaload i
  | 47 => dk y pc .laload i
  | 50 => dk y pc .aaload i
  | 51 => dk y pc .baload i
  | 54 => ck54 y pc i
  | 55 => ck55 y pc i
  | 58 => ck58 y pc i
  | 79 => dk y pc .iastore i
  | 80 => dk y pc .lastore i
  | 83 => dk y pc .aastore i && Nat.beq i.2.2.1 1
  | 84 => dk y pc .bastore i
  | 85 => dk y pc .bastore i
  | 87 => dk y pc .pop i
  | 89 => dk y pc .dup i
  | 92 => dk y pc .dup2 i
  | 117 => dk y pc .lneg i
  | 132 => ck132 y pc i
  | 133 => dk y pc .i2l i
  | 136 => dk y pc .l2i i
  | 148 => dk y pc .lcmp i
  | 153 => ck153 y pc i
  | 159 => ck159 y pc i
  | 167 => ck167 y pc i
  | 170 => ck170 y pc i
  | 172 => ck172 y pc i
  | 173 => decide (decode (mby y) pc = .ok (.lreturn, 1)) && decide (mrt y = some .long)
  | 176 => decide (decode (mby y) pc = .ok (.areturn, 1)) && (match mrt y with
    | some (.object _) => true
    | _ => false)
  | 177 => decide (decode (mby y) pc = .ok (.return_, 1)) && decide (mrt y = none)
  | 178 => ckSt y pc i 38 && decide (i.2.2.2.2.1 = 1)
  | 179 => ckSt y pc i 1053
  | 180 => ck180 y pc i 0
  | 1180 => ck180 y pc i 2
  | 2180 => ck180 y pc i 3
  | 3180 => ckStr y pc i 9
  | 4180 => ckStr y pc i 15
  | 181 => ck181 y pc i 0
  | 5181 => ck181 y pc i 1
  | 1181 => ck181 y pc i 2
  | 2181 => ck181 y pc i 3
  | 182 => ck182 y pc i
  | 1182 => ck1182 y pc i
  | 2182 => ck2182 y pc i
  | 3182 => ck3182 y pc i
  | 183 => ck183 y pc i
  | 184 => ckAC y pc i
  | 187 => ck187 y pc i
  | 188 => ck188 y pc i
  | 189 => ck189 y pc i
  | 190 => dk y pc .arraylength i
  | 197 => ck197 y pc i
  | 198 => ck198 y pc i
  | 201 => ckMM y pc i 0
  | 202 => ckMM y pc i 1
  | 203 => ckMM y pc i 2
  | 204 => ckMM y pc i 3
  | _ => false
def ckM (y : Nat) : Bool := (codes.getD y []).all (fun q => ckI y q.1 q.2)
