/-! THE TIE between class and reference: the class's state, read off the reference's (but memory and port, which are held otherwise) -/
def mkK (F : MS) (W B : Nat → Int32) (lat : Int32) (ret : Int64) : KS := (mx F, mpc F, mwaits F, ret, lat, W, mtime F, mlimit F, B, msentMany F, mmie F, mmpie F, mmieBits F, mmtvec F, mmscratch F, mmepc F, mmcause F, mmtval F)
def bytK (W : Nat → Int32) (a : Nat) : Int32 := jushr (W (a / 4)) (nI (8 * (a % 4))) &&& 255
abbrev MemOk (nW : Nat) (W mem : Nat → Int32) : Prop := ∀ a : Nat, a < 4 * nW → mem a = bytK W a
abbrev SntOk (B snt : Nat → Int32) (n : Int32) : Prop := ∀ i : Nat, (i : Int) < n.toInt → B i &&& 255 = snt i
abbrev MInv (mo : Int32) (F : MS) : Prop := mx F 0 = 0 ∧ mpc F &&& 3 = 0 ∧ mmepc F &&& 3 = 0 ∧ mSnt mo F
abbrev Cst (nW nB : Nat) (sz mo : Int32) : Prop := KOk nW nB ∧ MOk sz mo ∧ sz.toInt = 4 * nW ∧ mo.toInt = nB
def Rel (nW nB : Nat) (sz mo : Int32) (E : KS) (F : MS) : Prop := Cst nW nB sz mo ∧ ∃ W B : Nat → Int32, E = mkK F W B (mlatest F) (mretired F) ∧ MemOk nW W (mmemory F) ∧ SntOk B (msent F) (msentMany F) ∧ MInv mo F
def nWof (a : Int32) : Nat := (clB a >>> ((2 : Int32) &&& 31)).toNatClampNeg
def nBof (a : Int32) : Nat := (clP a).toNatClampNeg
