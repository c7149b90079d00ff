/-! TOOLS: one list of words for all methods (big), one shape for all contracts, one row a call -/
def b2i (b : Bool) : Int32 := if b = true then 1 else 0
def jushr (x y : Int32) : Int32 := (x.toUInt32 >>> (y.toUInt32 &&& Int32.toUInt32 31)).toInt32
def jlushr (x : Int64) (y : Int32) : Int64 := (x.toUInt64 >>> (y.toInt64.toUInt64 &&& Int64.toUInt64 63)).toInt64
def jlshl (x : Int64) (y : Int32) : Int64 := x <<< (y.toInt64 &&& 63)
def jlshr (x : Int64) (y : Int32) : Int64 := x >>> (y.toInt64 &&& 63)
theorem b2i_t : b2i true = 1 := rfl
theorem b2i_f : b2i false = 0 := rfl
theorem b2i_0 {b : Bool} : b2i b = 0 ↔ b = false := by cases b <;> decide
theorem b2i_n0 {b : Bool} : ¬ b2i b = 0 ↔ b = true := by cases b <;> decide
theorem b2i_nar (b : Bool) : narrow .boolean (.int (b2i b)) = .int (b2i b) := by cases b <;> rfl
theorem b2i_fit (b : Bool) : fits .boolean (.int (b2i b)) = true := by cases b <;> rfl
def rmd (d : Nat) : Room := { frames := d, cells := 0, slots := 0, locals := 33 * d }
/-- a word of the list holds wherever the machine stands later -/
def tw_nest : Cond → Bool
  | .fieldLinkNest .. => true
  | .methodLinkNest .. => true
  | _ => false
theorem tw_warm {args : Array Value} {s : State} {w : Cond} (hg : (goodWord w || tw_nest w) = true) (h : w.before args s = true) : ∀ (a' : Array Value) (U : State), s.WarmedH U.vm → w.before a' U = true := by
  intro a' U hW
  rcases Bool.or_eq_true _ _ |>.mp hg with hg | hg
  · exact word_at hW (good_of_word hg) h
  · cases w with
    | fieldLinkNest a i b n d h2 => exact va_Nw.use rfl (va_Nw.warmF hW (va_Nw.of rfl h))
    | methodLinkNest a i x h2 => exact va_Nw.use rfl (va_Nw.warmM hW (va_Nw.of rfl h))
    | _ => simp [tw_nest] at hg
theorem fm_of {α β : Type} {f : α → Option β} : ∀ {l : List α} {w : List β}, l.map f = w.map some → l.filterMap f = w
  | [], [], _ => rfl
  | [], _ :: _, h => by simp at h
  | _ :: _, [], h => by simp at h
  | a :: l, b :: w, h => by
    simp only [List.map_cons, List.cons.injEq] at h
    rw [List.filterMap_cons, h.1]
    simp only [List.cons.injEq, true_and]
    exact fm_of h.2
theorem rg_all {α : Type} (ws : List α) : (List.range ws.length).map (fun i => ws[i]?) = ws.map some := by
  apply List.ext_getElem?
  intro i
  simp only [List.getElem?_map]
  by_cases h : i < ws.length
  · rw [List.getElem?_range h]
    simp [h]
  · rw [List.getElem?_eq_none (by simpa using h), List.getElem?_eq_none (by simpa using h)]
    rfl
/-- the words that every method is given: those of the tables that hold wherever the machine stands later -/
def big : List Cond := lw_tbl.filter (fun w => goodWord w || tw_nest w)
theorem mb {w : Cond} (i : Nat) (h : lw_tbl[i]? = some w) (hg : (goodWord w || tw_nest w) = true) : w ∈ big := List.mem_filter.mpr ⟨List.mem_of_getElem? h, hg⟩
theorem big_ok (w : Cond) (h : w ∈ big) : (goodWord w || tw_nest w) = true := (List.mem_filter.mp h).2
theorem big_in {w : Cond} (h : w ∈ big) : w ∈ lw_tbl := (List.mem_filter.mp h).1
theorem in_big (ws : List Cond) (ps : List Nat) (hp : ws = ps.filterMap (fun i => lw_tbl[i]?)) (hg : ws.all (fun w => goodWord w || tw_nest w) = true) : ∀ w ∈ ws, w ∈ big := by
  intro w hw
  have h1 := List.all_eq_true.mp hg w hw
  rw [hp] at hw
  obtain ⟨i, -, hi⟩ := List.mem_filterMap.mp hw
  exact mb i hi h1
abbrev KS : Type := (Nat → Int32) × Int32 × Bool × Int64 × Int32 × (Nat → Int32) × Int64 × Int64 × (Nat → Int32) × Int32 × Bool × Bool × Int32 × Int32 × Int32 × Int32 × Int32 × Int32
def kx (E : KS) : (Nat → Int32) := E.1
def kplace (E : KS) : Int32 := E.2.1
def kwaiting (E : KS) : Bool := E.2.2.1
def kretired (E : KS) : Int64 := E.2.2.2.1
def klatest (E : KS) : Int32 := E.2.2.2.2.1
def kwords (E : KS) : (Nat → Int32) := E.2.2.2.2.2.1
def ktime (E : KS) : Int64 := E.2.2.2.2.2.2.1
def klimit (E : KS) : Int64 := E.2.2.2.2.2.2.2.1
def kbytes (E : KS) : (Nat → Int32) := E.2.2.2.2.2.2.2.2.1
def ksent (E : KS) : Int32 := E.2.2.2.2.2.2.2.2.2.1
def kon (E : KS) : Bool := E.2.2.2.2.2.2.2.2.2.2.1
def kwas (E : KS) : Bool := E.2.2.2.2.2.2.2.2.2.2.2.1
def kenabled (E : KS) : Int32 := E.2.2.2.2.2.2.2.2.2.2.2.2.1
def kvector (E : KS) : Int32 := E.2.2.2.2.2.2.2.2.2.2.2.2.2.1
def kscratch (E : KS) : Int32 := E.2.2.2.2.2.2.2.2.2.2.2.2.2.2.1
def kback (E : KS) : Int32 := E.2.2.2.2.2.2.2.2.2.2.2.2.2.2.2.1
def kcause (E : KS) : Int32 := E.2.2.2.2.2.2.2.2.2.2.2.2.2.2.2.2.1
def kvalue (E : KS) : Int32 := E.2.2.2.2.2.2.2.2.2.2.2.2.2.2.2.2.2
def kx_ (E : KS) (v : (Nat → Int32)) : KS := (v, E.2)
def kplace_ (E : KS) (v : Int32) : KS := (E.1, v, E.2.2)
def kwaiting_ (E : KS) (v : Bool) : KS := (E.1, E.2.1, v, E.2.2.2)
def kretired_ (E : KS) (v : Int64) : KS := (E.1, E.2.1, E.2.2.1, v, E.2.2.2.2)
def klatest_ (E : KS) (v : Int32) : KS := (E.1, E.2.1, E.2.2.1, E.2.2.2.1, v, E.2.2.2.2.2)
def kwords_ (E : KS) (v : (Nat → Int32)) : KS := (E.1, E.2.1, E.2.2.1, E.2.2.2.1, E.2.2.2.2.1, v, E.2.2.2.2.2.2)
def ktime_ (E : KS) (v : Int64) : KS := (E.1, E.2.1, E.2.2.1, E.2.2.2.1, E.2.2.2.2.1, E.2.2.2.2.2.1, v, E.2.2.2.2.2.2.2)
def klimit_ (E : KS) (v : Int64) : KS := (E.1, E.2.1, E.2.2.1, E.2.2.2.1, E.2.2.2.2.1, E.2.2.2.2.2.1, E.2.2.2.2.2.2.1, v, E.2.2.2.2.2.2.2.2)
def kbytes_ (E : KS) (v : (Nat → Int32)) : KS := (E.1, E.2.1, E.2.2.1, E.2.2.2.1, E.2.2.2.2.1, E.2.2.2.2.2.1, E.2.2.2.2.2.2.1, E.2.2.2.2.2.2.2.1, v, E.2.2.2.2.2.2.2.2.2)
def ksent_ (E : KS) (v : Int32) : KS := (E.1, E.2.1, E.2.2.1, E.2.2.2.1, E.2.2.2.2.1, E.2.2.2.2.2.1, E.2.2.2.2.2.2.1, E.2.2.2.2.2.2.2.1, E.2.2.2.2.2.2.2.2.1, v, E.2.2.2.2.2.2.2.2.2.2)
def kon_ (E : KS) (v : Bool) : KS := (E.1, E.2.1, E.2.2.1, E.2.2.2.1, E.2.2.2.2.1, E.2.2.2.2.2.1, E.2.2.2.2.2.2.1, E.2.2.2.2.2.2.2.1, E.2.2.2.2.2.2.2.2.1, E.2.2.2.2.2.2.2.2.2.1, v, E.2.2.2.2.2.2.2.2.2.2.2)
def kwas_ (E : KS) (v : Bool) : KS := (E.1, E.2.1, E.2.2.1, E.2.2.2.1, E.2.2.2.2.1, E.2.2.2.2.2.1, E.2.2.2.2.2.2.1, E.2.2.2.2.2.2.2.1, E.2.2.2.2.2.2.2.2.1, E.2.2.2.2.2.2.2.2.2.1, E.2.2.2.2.2.2.2.2.2.2.1, v, E.2.2.2.2.2.2.2.2.2.2.2.2)
def kenabled_ (E : KS) (v : Int32) : KS := (E.1, E.2.1, E.2.2.1, E.2.2.2.1, E.2.2.2.2.1, E.2.2.2.2.2.1, E.2.2.2.2.2.2.1, E.2.2.2.2.2.2.2.1, E.2.2.2.2.2.2.2.2.1, E.2.2.2.2.2.2.2.2.2.1, E.2.2.2.2.2.2.2.2.2.2.1, E.2.2.2.2.2.2.2.2.2.2.2.1, v, E.2.2.2.2.2.2.2.2.2.2.2.2.2)
def kvector_ (E : KS) (v : Int32) : KS := (E.1, E.2.1, E.2.2.1, E.2.2.2.1, E.2.2.2.2.1, E.2.2.2.2.2.1, E.2.2.2.2.2.2.1, E.2.2.2.2.2.2.2.1, E.2.2.2.2.2.2.2.2.1, E.2.2.2.2.2.2.2.2.2.1, E.2.2.2.2.2.2.2.2.2.2.1, E.2.2.2.2.2.2.2.2.2.2.2.1, E.2.2.2.2.2.2.2.2.2.2.2.2.1, v, E.2.2.2.2.2.2.2.2.2.2.2.2.2.2)
def kscratch_ (E : KS) (v : Int32) : KS := (E.1, E.2.1, E.2.2.1, E.2.2.2.1, E.2.2.2.2.1, E.2.2.2.2.2.1, E.2.2.2.2.2.2.1, E.2.2.2.2.2.2.2.1, E.2.2.2.2.2.2.2.2.1, E.2.2.2.2.2.2.2.2.2.1, E.2.2.2.2.2.2.2.2.2.2.1, E.2.2.2.2.2.2.2.2.2.2.2.1, E.2.2.2.2.2.2.2.2.2.2.2.2.1, E.2.2.2.2.2.2.2.2.2.2.2.2.2.1, v, E.2.2.2.2.2.2.2.2.2.2.2.2.2.2.2)
def kback_ (E : KS) (v : Int32) : KS := (E.1, E.2.1, E.2.2.1, E.2.2.2.1, E.2.2.2.2.1, E.2.2.2.2.2.1, E.2.2.2.2.2.2.1, E.2.2.2.2.2.2.2.1, E.2.2.2.2.2.2.2.2.1, E.2.2.2.2.2.2.2.2.2.1, E.2.2.2.2.2.2.2.2.2.2.1, E.2.2.2.2.2.2.2.2.2.2.2.1, E.2.2.2.2.2.2.2.2.2.2.2.2.1, E.2.2.2.2.2.2.2.2.2.2.2.2.2.1, E.2.2.2.2.2.2.2.2.2.2.2.2.2.2.1, v, E.2.2.2.2.2.2.2.2.2.2.2.2.2.2.2.2)
def kcause_ (E : KS) (v : Int32) : KS := (E.1, E.2.1, E.2.2.1, E.2.2.2.1, E.2.2.2.2.1, E.2.2.2.2.2.1, E.2.2.2.2.2.2.1, E.2.2.2.2.2.2.2.1, E.2.2.2.2.2.2.2.2.1, E.2.2.2.2.2.2.2.2.2.1, E.2.2.2.2.2.2.2.2.2.2.1, E.2.2.2.2.2.2.2.2.2.2.2.1, E.2.2.2.2.2.2.2.2.2.2.2.2.1, E.2.2.2.2.2.2.2.2.2.2.2.2.2.1, E.2.2.2.2.2.2.2.2.2.2.2.2.2.2.1, E.2.2.2.2.2.2.2.2.2.2.2.2.2.2.2.1, v, E.2.2.2.2.2.2.2.2.2.2.2.2.2.2.2.2.2)
def kvalue_ (E : KS) (v : Int32) : KS := (E.1, E.2.1, E.2.2.1, E.2.2.2.1, E.2.2.2.2.1, E.2.2.2.2.2.1, E.2.2.2.2.2.2.1, E.2.2.2.2.2.2.2.1, E.2.2.2.2.2.2.2.2.1, E.2.2.2.2.2.2.2.2.2.1, E.2.2.2.2.2.2.2.2.2.2.1, E.2.2.2.2.2.2.2.2.2.2.2.1, E.2.2.2.2.2.2.2.2.2.2.2.2.1, E.2.2.2.2.2.2.2.2.2.2.2.2.2.1, E.2.2.2.2.2.2.2.2.2.2.2.2.2.2.1, E.2.2.2.2.2.2.2.2.2.2.2.2.2.2.2.1, E.2.2.2.2.2.2.2.2.2.2.2.2.2.2.2.2.1, v)
abbrev MS : Type := (Nat → Int32) × Int32 × Bool × Bool × Int32 × Int32 × Int32 × Int32 × Int32 × Int32 × Int64 × Int64 × (Nat → Int32) × Int32 × Int64 × Bool × Int32 × Int32 × Int32 × Int32 × Int32 × Int32 × Int32 × Int32 × (Nat → Int32)
def mx (E : MS) : (Nat → Int32) := E.1
def mpc (E : MS) : Int32 := E.2.1
def mmie (E : MS) : Bool := E.2.2.1
def mmpie (E : MS) : Bool := E.2.2.2.1
def mmieBits (E : MS) : Int32 := E.2.2.2.2.1
def mmtvec (E : MS) : Int32 := E.2.2.2.2.2.1
def mmscratch (E : MS) : Int32 := E.2.2.2.2.2.2.1
def mmepc (E : MS) : Int32 := E.2.2.2.2.2.2.2.1
def mmcause (E : MS) : Int32 := E.2.2.2.2.2.2.2.2.1
def mmtval (E : MS) : Int32 := E.2.2.2.2.2.2.2.2.2.1
def mtime (E : MS) : Int64 := E.2.2.2.2.2.2.2.2.2.2.1
def mlimit (E : MS) : Int64 := E.2.2.2.2.2.2.2.2.2.2.2.1
def msent (E : MS) : (Nat → Int32) := E.2.2.2.2.2.2.2.2.2.2.2.2.1
def msentMany (E : MS) : Int32 := E.2.2.2.2.2.2.2.2.2.2.2.2.2.1
def mretired (E : MS) : Int64 := E.2.2.2.2.2.2.2.2.2.2.2.2.2.2.1
def mwaits (E : MS) : Bool := E.2.2.2.2.2.2.2.2.2.2.2.2.2.2.2.1
def mlatest (E : MS) : Int32 := E.2.2.2.2.2.2.2.2.2.2.2.2.2.2.2.2.1
def mword (E : MS) : Int32 := E.2.2.2.2.2.2.2.2.2.2.2.2.2.2.2.2.2.1
def md (E : MS) : Int32 := E.2.2.2.2.2.2.2.2.2.2.2.2.2.2.2.2.2.2.1
def mf (E : MS) : Int32 := E.2.2.2.2.2.2.2.2.2.2.2.2.2.2.2.2.2.2.2.1
def ms (E : MS) : Int32 := E.2.2.2.2.2.2.2.2.2.2.2.2.2.2.2.2.2.2.2.2.1
def mt (E : MS) : Int32 := E.2.2.2.2.2.2.2.2.2.2.2.2.2.2.2.2.2.2.2.2.2.1
def mg (E : MS) : Int32 := E.2.2.2.2.2.2.2.2.2.2.2.2.2.2.2.2.2.2.2.2.2.2.1
def mnext (E : MS) : Int32 := E.2.2.2.2.2.2.2.2.2.2.2.2.2.2.2.2.2.2.2.2.2.2.2.1
def mmemory (E : MS) : (Nat → Int32) := E.2.2.2.2.2.2.2.2.2.2.2.2.2.2.2.2.2.2.2.2.2.2.2.2
def mx_ (E : MS) (v : (Nat → Int32)) : MS := (v, E.2)
def mpc_ (E : MS) (v : Int32) : MS := (E.1, v, E.2.2)
def mmie_ (E : MS) (v : Bool) : MS := (E.1, E.2.1, v, E.2.2.2)
def mmpie_ (E : MS) (v : Bool) : MS := (E.1, E.2.1, E.2.2.1, v, E.2.2.2.2)
def mmieBits_ (E : MS) (v : Int32) : MS := (E.1, E.2.1, E.2.2.1, E.2.2.2.1, v, E.2.2.2.2.2)
def mmtvec_ (E : MS) (v : Int32) : MS := (E.1, E.2.1, E.2.2.1, E.2.2.2.1, E.2.2.2.2.1, v, E.2.2.2.2.2.2)
def mmscratch_ (E : MS) (v : Int32) : MS := (E.1, E.2.1, E.2.2.1, E.2.2.2.1, E.2.2.2.2.1, E.2.2.2.2.2.1, v, E.2.2.2.2.2.2.2)
def mmepc_ (E : MS) (v : Int32) : MS := (E.1, E.2.1, E.2.2.1, E.2.2.2.1, E.2.2.2.2.1, E.2.2.2.2.2.1, E.2.2.2.2.2.2.1, v, E.2.2.2.2.2.2.2.2)
def mmcause_ (E : MS) (v : Int32) : MS := (E.1, E.2.1, E.2.2.1, E.2.2.2.1, E.2.2.2.2.1, E.2.2.2.2.2.1, E.2.2.2.2.2.2.1, E.2.2.2.2.2.2.2.1, v, E.2.2.2.2.2.2.2.2.2)
def mmtval_ (E : MS) (v : Int32) : MS := (E.1, E.2.1, E.2.2.1, E.2.2.2.1, E.2.2.2.2.1, E.2.2.2.2.2.1, E.2.2.2.2.2.2.1, E.2.2.2.2.2.2.2.1, E.2.2.2.2.2.2.2.2.1, v, E.2.2.2.2.2.2.2.2.2.2)
def mtime_ (E : MS) (v : Int64) : MS := (E.1, E.2.1, E.2.2.1, E.2.2.2.1, E.2.2.2.2.1, E.2.2.2.2.2.1, E.2.2.2.2.2.2.1, E.2.2.2.2.2.2.2.1, E.2.2.2.2.2.2.2.2.1, E.2.2.2.2.2.2.2.2.2.1, v, E.2.2.2.2.2.2.2.2.2.2.2)
def mlimit_ (E : MS) (v : Int64) : MS := (E.1, E.2.1, E.2.2.1, E.2.2.2.1, E.2.2.2.2.1, E.2.2.2.2.2.1, E.2.2.2.2.2.2.1, E.2.2.2.2.2.2.2.1, E.2.2.2.2.2.2.2.2.1, E.2.2.2.2.2.2.2.2.2.1, E.2.2.2.2.2.2.2.2.2.2.1, v, E.2.2.2.2.2.2.2.2.2.2.2.2)
def msent_ (E : MS) (v : (Nat → Int32)) : MS := (E.1, E.2.1, E.2.2.1, E.2.2.2.1, E.2.2.2.2.1, E.2.2.2.2.2.1, E.2.2.2.2.2.2.1, E.2.2.2.2.2.2.2.1, E.2.2.2.2.2.2.2.2.1, E.2.2.2.2.2.2.2.2.2.1, E.2.2.2.2.2.2.2.2.2.2.1, E.2.2.2.2.2.2.2.2.2.2.2.1, v, E.2.2.2.2.2.2.2.2.2.2.2.2.2)
def msentMany_ (E : MS) (v : Int32) : MS := (E.1, E.2.1, E.2.2.1, E.2.2.2.1, E.2.2.2.2.1, E.2.2.2.2.2.1, E.2.2.2.2.2.2.1, E.2.2.2.2.2.2.2.1, E.2.2.2.2.2.2.2.2.1, E.2.2.2.2.2.2.2.2.2.1, E.2.2.2.2.2.2.2.2.2.2.1, E.2.2.2.2.2.2.2.2.2.2.2.1, E.2.2.2.2.2.2.2.2.2.2.2.2.1, v, E.2.2.2.2.2.2.2.2.2.2.2.2.2.2)
def mretired_ (E : MS) (v : Int64) : MS := (E.1, E.2.1, E.2.2.1, E.2.2.2.1, E.2.2.2.2.1, E.2.2.2.2.2.1, E.2.2.2.2.2.2.1, E.2.2.2.2.2.2.2.1, E.2.2.2.2.2.2.2.2.1, E.2.2.2.2.2.2.2.2.2.1, E.2.2.2.2.2.2.2.2.2.2.1, E.2.2.2.2.2.2.2.2.2.2.2.1, E.2.2.2.2.2.2.2.2.2.2.2.2.1, E.2.2.2.2.2.2.2.2.2.2.2.2.2.1, v, E.2.2.2.2.2.2.2.2.2.2.2.2.2.2.2)
def mwaits_ (E : MS) (v : Bool) : MS := (E.1, E.2.1, E.2.2.1, E.2.2.2.1, E.2.2.2.2.1, E.2.2.2.2.2.1, E.2.2.2.2.2.2.1, E.2.2.2.2.2.2.2.1, E.2.2.2.2.2.2.2.2.1, E.2.2.2.2.2.2.2.2.2.1, E.2.2.2.2.2.2.2.2.2.2.1, E.2.2.2.2.2.2.2.2.2.2.2.1, E.2.2.2.2.2.2.2.2.2.2.2.2.1, E.2.2.2.2.2.2.2.2.2.2.2.2.2.1, E.2.2.2.2.2.2.2.2.2.2.2.2.2.2.1, v, E.2.2.2.2.2.2.2.2.2.2.2.2.2.2.2.2)
def mlatest_ (E : MS) (v : Int32) : MS := (E.1, E.2.1, E.2.2.1, E.2.2.2.1, E.2.2.2.2.1, E.2.2.2.2.2.1, E.2.2.2.2.2.2.1, E.2.2.2.2.2.2.2.1, E.2.2.2.2.2.2.2.2.1, E.2.2.2.2.2.2.2.2.2.1, E.2.2.2.2.2.2.2.2.2.2.1, E.2.2.2.2.2.2.2.2.2.2.2.1, E.2.2.2.2.2.2.2.2.2.2.2.2.1, E.2.2.2.2.2.2.2.2.2.2.2.2.2.1, E.2.2.2.2.2.2.2.2.2.2.2.2.2.2.1, E.2.2.2.2.2.2.2.2.2.2.2.2.2.2.2.1, v, E.2.2.2.2.2.2.2.2.2.2.2.2.2.2.2.2.2)
def mword_ (E : MS) (v : Int32) : MS := (E.1, E.2.1, E.2.2.1, E.2.2.2.1, E.2.2.2.2.1, E.2.2.2.2.2.1, E.2.2.2.2.2.2.1, E.2.2.2.2.2.2.2.1, E.2.2.2.2.2.2.2.2.1, E.2.2.2.2.2.2.2.2.2.1, E.2.2.2.2.2.2.2.2.2.2.1, E.2.2.2.2.2.2.2.2.2.2.2.1, E.2.2.2.2.2.2.2.2.2.2.2.2.1, E.2.2.2.2.2.2.2.2.2.2.2.2.2.1, E.2.2.2.2.2.2.2.2.2.2.2.2.2.2.1, E.2.2.2.2.2.2.2.2.2.2.2.2.2.2.2.1, E.2.2.2.2.2.2.2.2.2.2.2.2.2.2.2.2.1, v, E.2.2.2.2.2.2.2.2.2.2.2.2.2.2.2.2.2.2)
def md_ (E : MS) (v : Int32) : MS := (E.1, E.2.1, E.2.2.1, E.2.2.2.1, E.2.2.2.2.1, E.2.2.2.2.2.1, E.2.2.2.2.2.2.1, E.2.2.2.2.2.2.2.1, E.2.2.2.2.2.2.2.2.1, E.2.2.2.2.2.2.2.2.2.1, E.2.2.2.2.2.2.2.2.2.2.1, E.2.2.2.2.2.2.2.2.2.2.2.1, E.2.2.2.2.2.2.2.2.2.2.2.2.1, E.2.2.2.2.2.2.2.2.2.2.2.2.2.1, E.2.2.2.2.2.2.2.2.2.2.2.2.2.2.1, E.2.2.2.2.2.2.2.2.2.2.2.2.2.2.2.1, E.2.2.2.2.2.2.2.2.2.2.2.2.2.2.2.2.1, E.2.2.2.2.2.2.2.2.2.2.2.2.2.2.2.2.2.1, v, E.2.2.2.2.2.2.2.2.2.2.2.2.2.2.2.2.2.2.2)
def mf_ (E : MS) (v : Int32) : MS := (E.1, E.2.1, E.2.2.1, E.2.2.2.1, E.2.2.2.2.1, E.2.2.2.2.2.1, E.2.2.2.2.2.2.1, E.2.2.2.2.2.2.2.1, E.2.2.2.2.2.2.2.2.1, E.2.2.2.2.2.2.2.2.2.1, E.2.2.2.2.2.2.2.2.2.2.1, E.2.2.2.2.2.2.2.2.2.2.2.1, E.2.2.2.2.2.2.2.2.2.2.2.2.1, E.2.2.2.2.2.2.2.2.2.2.2.2.2.1, E.2.2.2.2.2.2.2.2.2.2.2.2.2.2.1, E.2.2.2.2.2.2.2.2.2.2.2.2.2.2.2.1, E.2.2.2.2.2.2.2.2.2.2.2.2.2.2.2.2.1, E.2.2.2.2.2.2.2.2.2.2.2.2.2.2.2.2.2.1, E.2.2.2.2.2.2.2.2.2.2.2.2.2.2.2.2.2.2.1, v, E.2.2.2.2.2.2.2.2.2.2.2.2.2.2.2.2.2.2.2.2)
def ms_ (E : MS) (v : Int32) : MS := (E.1, E.2.1, E.2.2.1, E.2.2.2.1, E.2.2.2.2.1, E.2.2.2.2.2.1, E.2.2.2.2.2.2.1, E.2.2.2.2.2.2.2.1, E.2.2.2.2.2.2.2.2.1, E.2.2.2.2.2.2.2.2.2.1, E.2.2.2.2.2.2.2.2.2.2.1, E.2.2.2.2.2.2.2.2.2.2.2.1, E.2.2.2.2.2.2.2.2.2.2.2.2.1, E.2.2.2.2.2.2.2.2.2.2.2.2.2.1, E.2.2.2.2.2.2.2.2.2.2.2.2.2.2.1, E.2.2.2.2.2.2.2.2.2.2.2.2.2.2.2.1, E.2.2.2.2.2.2.2.2.2.2.2.2.2.2.2.2.1, E.2.2.2.2.2.2.2.2.2.2.2.2.2.2.2.2.2.1, E.2.2.2.2.2.2.2.2.2.2.2.2.2.2.2.2.2.2.1, E.2.2.2.2.2.2.2.2.2.2.2.2.2.2.2.2.2.2.2.1, v, E.2.2.2.2.2.2.2.2.2.2.2.2.2.2.2.2.2.2.2.2.2)
def mt_ (E : MS) (v : Int32) : MS := (E.1, E.2.1, E.2.2.1, E.2.2.2.1, E.2.2.2.2.1, E.2.2.2.2.2.1, E.2.2.2.2.2.2.1, E.2.2.2.2.2.2.2.1, E.2.2.2.2.2.2.2.2.1, E.2.2.2.2.2.2.2.2.2.1, E.2.2.2.2.2.2.2.2.2.2.1, E.2.2.2.2.2.2.2.2.2.2.2.1, E.2.2.2.2.2.2.2.2.2.2.2.2.1, E.2.2.2.2.2.2.2.2.2.2.2.2.2.1, E.2.2.2.2.2.2.2.2.2.2.2.2.2.2.1, E.2.2.2.2.2.2.2.2.2.2.2.2.2.2.2.1, E.2.2.2.2.2.2.2.2.2.2.2.2.2.2.2.2.1, E.2.2.2.2.2.2.2.2.2.2.2.2.2.2.2.2.2.1, E.2.2.2.2.2.2.2.2.2.2.2.2.2.2.2.2.2.2.1, E.2.2.2.2.2.2.2.2.2.2.2.2.2.2.2.2.2.2.2.1, E.2.2.2.2.2.2.2.2.2.2.2.2.2.2.2.2.2.2.2.2.1, v, E.2.2.2.2.2.2.2.2.2.2.2.2.2.2.2.2.2.2.2.2.2.2)
def mg_ (E : MS) (v : Int32) : MS := (E.1, E.2.1, E.2.2.1, E.2.2.2.1, E.2.2.2.2.1, E.2.2.2.2.2.1, E.2.2.2.2.2.2.1, E.2.2.2.2.2.2.2.1, E.2.2.2.2.2.2.2.2.1, E.2.2.2.2.2.2.2.2.2.1, E.2.2.2.2.2.2.2.2.2.2.1, E.2.2.2.2.2.2.2.2.2.2.2.1, E.2.2.2.2.2.2.2.2.2.2.2.2.1, E.2.2.2.2.2.2.2.2.2.2.2.2.2.1, E.2.2.2.2.2.2.2.2.2.2.2.2.2.2.1, E.2.2.2.2.2.2.2.2.2.2.2.2.2.2.2.1, E.2.2.2.2.2.2.2.2.2.2.2.2.2.2.2.2.1, E.2.2.2.2.2.2.2.2.2.2.2.2.2.2.2.2.2.1, E.2.2.2.2.2.2.2.2.2.2.2.2.2.2.2.2.2.2.1, E.2.2.2.2.2.2.2.2.2.2.2.2.2.2.2.2.2.2.2.1, E.2.2.2.2.2.2.2.2.2.2.2.2.2.2.2.2.2.2.2.2.1, E.2.2.2.2.2.2.2.2.2.2.2.2.2.2.2.2.2.2.2.2.2.1, v, E.2.2.2.2.2.2.2.2.2.2.2.2.2.2.2.2.2.2.2.2.2.2.2)
def mnext_ (E : MS) (v : Int32) : MS := (E.1, E.2.1, E.2.2.1, E.2.2.2.1, E.2.2.2.2.1, E.2.2.2.2.2.1, E.2.2.2.2.2.2.1, E.2.2.2.2.2.2.2.1, E.2.2.2.2.2.2.2.2.1, E.2.2.2.2.2.2.2.2.2.1, E.2.2.2.2.2.2.2.2.2.2.1, E.2.2.2.2.2.2.2.2.2.2.2.1, E.2.2.2.2.2.2.2.2.2.2.2.2.1, E.2.2.2.2.2.2.2.2.2.2.2.2.2.1, E.2.2.2.2.2.2.2.2.2.2.2.2.2.2.1, E.2.2.2.2.2.2.2.2.2.2.2.2.2.2.2.1, E.2.2.2.2.2.2.2.2.2.2.2.2.2.2.2.2.1, E.2.2.2.2.2.2.2.2.2.2.2.2.2.2.2.2.2.1, E.2.2.2.2.2.2.2.2.2.2.2.2.2.2.2.2.2.2.1, E.2.2.2.2.2.2.2.2.2.2.2.2.2.2.2.2.2.2.2.1, E.2.2.2.2.2.2.2.2.2.2.2.2.2.2.2.2.2.2.2.2.1, E.2.2.2.2.2.2.2.2.2.2.2.2.2.2.2.2.2.2.2.2.2.1, E.2.2.2.2.2.2.2.2.2.2.2.2.2.2.2.2.2.2.2.2.2.2.1, v, E.2.2.2.2.2.2.2.2.2.2.2.2.2.2.2.2.2.2.2.2.2.2.2.2)
def mmemory_ (E : MS) (v : (Nat → Int32)) : MS := (E.1, E.2.1, E.2.2.1, E.2.2.2.1, E.2.2.2.2.1, E.2.2.2.2.2.1, E.2.2.2.2.2.2.1, E.2.2.2.2.2.2.2.1, E.2.2.2.2.2.2.2.2.1, E.2.2.2.2.2.2.2.2.2.1, E.2.2.2.2.2.2.2.2.2.2.1, E.2.2.2.2.2.2.2.2.2.2.2.1, E.2.2.2.2.2.2.2.2.2.2.2.2.1, E.2.2.2.2.2.2.2.2.2.2.2.2.2.1, E.2.2.2.2.2.2.2.2.2.2.2.2.2.2.1, E.2.2.2.2.2.2.2.2.2.2.2.2.2.2.2.1, E.2.2.2.2.2.2.2.2.2.2.2.2.2.2.2.2.1, E.2.2.2.2.2.2.2.2.2.2.2.2.2.2.2.2.2.1, E.2.2.2.2.2.2.2.2.2.2.2.2.2.2.2.2.2.2.1, E.2.2.2.2.2.2.2.2.2.2.2.2.2.2.2.2.2.2.2.1, E.2.2.2.2.2.2.2.2.2.2.2.2.2.2.2.2.2.2.2.2.1, E.2.2.2.2.2.2.2.2.2.2.2.2.2.2.2.2.2.2.2.2.2.1, E.2.2.2.2.2.2.2.2.2.2.2.2.2.2.2.2.2.2.2.2.2.2.1, E.2.2.2.2.2.2.2.2.2.2.2.2.2.2.2.2.2.2.2.2.2.2.2.1, v)
def cwK (q : Nat → Nat) (ca : Nat → ClassId) (nW nB : Nat) (E : KS) : va_W := [(q 0, .inr (4, [.ref (q 1), .ref (q 3), .ref (q 4), .ref (q 6), .ref (q 7), .int (kplace E), .int (b2i (kwaiting E)), .long (kretired E), .int (klatest E)])), (q 1, .inr (1, [.ref (q 2)])), (q 2, .inl (ca 0, nW, .inl (kwords E))), (q 3, .inr (3, [.long (ktime E), .long (klimit E)])), (q 4, .inr (2, [.ref (q 5), .int (ksent E)])), (q 5, .inl (ca 1, nB, .inl (kbytes E))), (q 6, .inr (0, [.int (b2i (kon E)), .int (b2i (kwas E)), .int (kenabled E), .int (kvector E), .int (kscratch E), .int (kback E), .int (kcause E), .int (kvalue E)])), (q 7, .inl (ca 2, 32, .inl (kx E)))]
def cwM (q : Nat → Nat) (ca : Nat → ClassId) (sz mo : Int32) (E : MS) : va_W := [(q 0, .inr (5, [.int sz, .int mo, .ref (q 1), .ref (q 2), .int (mpc E), .int (b2i (mmie E)), .int (b2i (mmpie E)), .int (mmieBits E), .int (mmtvec E), .int (mmscratch E), .int (mmepc E), .int (mmcause E), .int (mmtval E), .long (mtime E), .long (mlimit E), .ref (q 3), .int (msentMany E), .long (mretired E), .int (b2i (mwaits E)), .int (mlatest E), .int (mword E), .int (md E), .int (mf E), .int (ms E), .int (mt E), .int (mg E), .int (mnext E)])), (q 1, .inl (ca 0, 65536, .inl (mmemory E))), (q 2, .inl (ca 1, 32, .inl (mx E))), (q 3, .inl (ca 2, 4096, .inl (msent E)))]
def tysK (ca : Nat → ClassId) : List (ClassId × FieldType) := [(ca 0, .int), (ca 1, .byte), (ca 2, .int)]
def tysM (ca : Nat → ClassId) : List (ClassId × FieldType) := [(ca 0, .int), (ca 1, .int), (ca 2, .int)]
abbrev KOk (nW nB : Nat) : Prop := nW ≤ 16384 ∧ nB ≤ 4096
abbrev MOk (sz mo : Int32) : Prop := (64 ≤ sz.toInt ∧ sz.toInt ≤ 65536) ∧ (0 ≤ mo.toInt ∧ mo.toInt ≤ 4096)
abbrev mDec (E : MS) : Prop := vp_in (md E) 32 ∧ vp_in (ms E) 32 ∧ vp_in (mt E) 32 ∧ vp_in (mf E) 8
abbrev mSnt (mo : Int32) (E : MS) : Prop := 0 ≤ (msentMany E).toInt ∧ (msentMany E).toInt ≤ mo.toInt
section TW
variable {p : Program} {l : Launch} {e : Env} {R : Room} {s : State} {m : MethodId} {args : Array Value} {below : List Frame} {meth : Method} {c : Code} {H H0 : Heap} {locs : List Loc} {cells slots : Nat} {Q : State → Prop}
variable {cc bts : ByteArray} {pc nL nL2 n d index ci q0 N : Nat} {ls : Array Slot} {rest st As : List Value} {own host : String} {y : MethodName} {ret : Option FieldType} {b : Nat} {T : u_T} {fs : List Value}
variable {D : va_G} {tys : List (ClassId × FieldType)} {A : Nat → Prop} {ws w1 : va_W}
abbrev Cx (p : Program) (m : MethodId) (c : Code) (cc : ByteArray) (nL : Nat) (s : State) (args : Array Value) (own : String) (D : va_G) (tys : List (ClassId × FieldType)) : Prop := CallFix p m c cc nL s args big own ∧ va_K D vwCl tys s
def PcW (D : va_G) (tys : List (ClassId × FieldType)) (As : List Value) (ws : va_W) (sz : Nat) : Array Value → State → Prop := va_Pc As (fun U => U.heap.size = sz ∧ va_P D vwCl ws U.heap ∧ va_K D vwCl tys U ∧ va_D (fun _ => True) ws)
def QcI (D : va_G) (ws w1 : va_W) (rv : Int32) (sz : Nat) : Array Value → State → Outcome → State → Prop := va_Qi (fun r (_ : Unit) => r = rv) (fun _ t => va_P D vwCl w1 t.heap ∧ va_D (va_A ws sz) w1) (va_A ws sz)
def QcL (D : va_G) (ws w1 : va_W) (rv : Int64) (sz : Nat) : Array Value → State → Outcome → State → Prop := va_Ql (fun r (_ : Unit) => r = rv) (fun _ t => va_P D vwCl w1 t.heap ∧ va_D (va_A ws sz) w1) (va_A ws sz)
def QcV (D : va_G) (ws w1 : va_W) (sz : Nat) : Array Value → State → Outcome → State → Prop := va_Qv (fun (_ : Unit) => True) (fun _ t => va_P D vwCl w1 t.heap ∧ va_D (va_A ws sz) w1) (va_A ws sz)
/-- a method's contract: from the world ws, over any caller -/
def Mt (l : Launch) (y : MethodName) (cc : ByteArray) (nL : Nat) (ret : Option FieldType) (d : Nat) (D : va_G) (tys : List (ClassId × FieldType)) (As : List Value) (ws : va_W) (Qc : Nat → Array Value → State → Outcome → State → Prop) : Prop := ∀ sz : Nat, Met l y (.code y cc nL ret :: big) (rmd d) (PcW D tys As ws sz) (Qc sz) 0 0 (va_A ws sz)
theorem tw_blind {sz : Nat} : FrameBlind (PcW D tys As ws sz) := fun a U g mk q => by
  obtain ⟨q0, q1, qP, qK, qD⟩ := q
  exact ⟨q0, q1, qP, va_K.moved (u := U) (U := U.calling g mk a) (Vm.Alike.refl U.vm) qK, qD⟩
theorem tw_pre (hP : va_P D vwCl ws H) (hK : va_K D vwCl tys s) (hD : va_D A ws) : ∀ U : State, U.heap = H → s.WarmedH U.vm → PcW D tys As ws H.size As.toArray U := fun U hU hW => ⟨rfl, by rw [hU], by rw [hU]; exact hP, va_K.moved hW.alike hK, hD.weaken (fun _ _ _ _ => trivial)⟩
theorem tw_words (h : ∀ w ∈ big, w.before args s = true) (hc : Cond.code y bts nL2 ret ∈ big) : ∀ w ∈ (Cond.code y bts nL2 ret :: big), ∀ (a' : Array Value) (U : State), s.WarmedH U.vm → w.before a' U = true := by
  intro w hw
  have hw2 : w ∈ big := by
    rcases List.mem_cons.mp hw with rfl | h2
    · exact hc
    · exact h2
  exact tw_warm (big_ok w hw2) (h w hw2)
abbrev OkB (y : MethodName) (bts : ByteArray) (nL : Nat) (ret : Option FieldType) (n : Nat) : Prop := Cond.code y bts nL ret ∈ big ∧ Cond.initialized y.cls ∈ big ∧ (y.cls ≠ "java/lang/invoke/MethodHandle" ∧ y.cls ≠ "java/lang/invoke/VarHandle" ∧ (parseMethodDescriptor y.desc).map (fun d => d.parameters.length) = some n)
abbrev OkV (y : MethodName) (bts : ByteArray) (nL : Nat) (ret : Option FieldType) (n : Nat) : Prop := OkB y bts nL ret n ∧ Cond.instanceMethod y ∈ big ∧ Cond.selects y.cls y y ∈ big
abbrev OkS (y : MethodName) (bts : ByteArray) (nL : Nat) (ret : Option FieldType) (n : Nat) : Prop := OkB y bts nL ret n ∧ Cond.static y ∈ big
theorem tw_len (h : (parseMethodDescriptor y.desc).map (fun d => d.parameters.length) = some n) : ∀ sig, parseMethodDescriptor y.desc = some sig → n = sig.parameters.length := fun sig q => by
  rw [q] at h
  exact (Option.some.inj h).symm
theorem tw_CB (hB : ∀ w ∈ big, w.before args s = true) (ok : OkB y bts nL2 ret n) (hl : Cond.methodLink own index y ∈ big) (hR : d + 1 ≤ R.frames ∧ 8 + (nL2 + 11) + 33 * d ≤ R.locals) : CallB R s args own index y bts nL2 ret (.code y bts nL2 ret :: big) (rmd d) 0 0 n :=
  ⟨rfl, rfl, hR.1, hR.2, tw_words hB ok.1, List.mem_cons_self, hB _ ok.1, hB _ ok.2.1, ⟨ok.2.2.1, ok.2.2.2.1⟩, tw_len ok.2.2.2.2, hB _ hl⟩
theorem tw_CN (hB : ∀ w ∈ big, w.before args s = true) (ok : OkB y bts nL2 ret n) (hl : Cond.methodLinkNest own index y host ∈ big) (hR : d + 1 ≤ R.frames ∧ 8 + (nL2 + 11) + 33 * d ≤ R.locals) : va_CN R s args own index y host bts nL2 ret (.code y bts nL2 ret :: big) (rmd d) 0 0 n :=
  ⟨⟨rfl, rfl, hR.1, hR.2, tw_words hB ok.1, List.mem_cons_self⟩, hB _ ok.1, hB _ ok.2.1, ⟨ok.2.2.1, ok.2.2.2.1⟩, tw_len ok.2.2.2.2, hB _ hl⟩
/-- calls of a method by its object, over the whole world -/
theorem rn_V {Qc : Nat → Array Value → State → Outcome → State → Prop} (X : Cx p m c cc nL s args own D tys) (hM : Mt l y bts nL2 ret d D tys (.ref b :: As) ws Qc) (ok : OkV y bts nL2 ret n) (hl : Cond.methodLink own index y ∈ big) (hR : d + 1 ≤ R.frames ∧ 8 + (nL2 + 11) + 33 * d ≤ R.locals) (hP : va_P D vwCl ws H) (hD : va_D A ws) (hc : vwCl[ci]? = some (y.cls, T, N)) (he : ws[q0]? = some (b, .inr (ci, fs))) (hn : As.length = n) (hsz : ls.size = nL) (hst : st = As.reverse ++ .ref b :: rest) (hW : (rest.map fun v => v.category).sum ≤ 8) (hdg : decode cc pc = .ok (.invokevirtual index, 3)) (hf : cells ≤ R.cells ∧ slots ≤ R.slots) :
    va_Run p l e R s m args below meth c H locs cells slots 0 0 (F0 m pc ls st) rest (Qc H.size (Value.ref b :: As).toArray) (va_A ws H.size) :=
  va_runV (C := y.cls) (As := As) (rest := rest) X.1 (hM H.size) ⟨tw_CB X.1.2.2.2.2 ok.1 hl hR, X.1.2.2.2.2 _ ok.2.1, X.1.2.2.2.2 _ ok.2.2⟩ ⟨tw_blind, va_recv X.2 hP hc he, tw_pre hP X.2 hD⟩ rfl hn hsz hst (lv_room hW) hdg hf
theorem rn_S {Qc : Nat → Array Value → State → Outcome → State → Prop} (X : Cx p m c cc nL s args own D tys) (hM : Mt l y bts nL2 ret d D tys As ws Qc) (ok : OkS y bts nL2 ret n) (hl : Cond.methodLink own index y ∈ big) (hR : d + 1 ≤ R.frames ∧ 8 + (nL2 + 11) + 33 * d ≤ R.locals) (hP : va_P D vwCl ws H) (hD : va_D A ws) (hn : As.length = n) (hsz : ls.size = nL) (hst : st = As.reverse ++ rest) (hW : (rest.map fun v => v.category).sum ≤ 8) (hdg : decode cc pc = .ok (.invokestatic index, 3)) (hf : cells ≤ R.cells ∧ slots ≤ R.slots) :
    va_Run p l e R s m args below meth c H locs cells slots 0 0 (F0 m pc ls st) rest (Qc H.size As.toArray) (va_A ws H.size) :=
  va_runS (As := As) (rest := rest) X.1 (hM H.size) ⟨tw_CB X.1.2.2.2.2 ok.1 hl hR, X.1.2.2.2.2 _ ok.2⟩ ⟨tw_blind, tw_pre hP X.2 hD⟩ rfl hn hsz hst (lv_room hW) hdg hf
theorem rn_SN {Qc : Nat → Array Value → State → Outcome → State → Prop} (X : Cx p m c cc nL s args own D tys) (hM : Mt l y bts nL2 ret d D tys As ws Qc) (ok : OkS y bts nL2 ret n) (hl : Cond.methodLinkNest own index y host ∈ big) (hR : d + 1 ≤ R.frames ∧ 8 + (nL2 + 11) + 33 * d ≤ R.locals) (hP : va_P D vwCl ws H) (hD : va_D A ws) (hn : As.length = n) (hsz : ls.size = nL) (hst : st = As.reverse ++ rest) (hW : (rest.map fun v => v.category).sum ≤ 8) (hdg : decode cc pc = .ok (.invokestatic index, 3)) (hf : cells ≤ R.cells ∧ slots ≤ R.slots) :
    va_Run p l e R s m args below meth c H locs cells slots 0 0 (F0 m pc ls st) rest (Qc H.size As.toArray) (va_A ws H.size) :=
  va_runSN (As := As) (rest := rest) X.1 (hM H.size) ⟨tw_CN X.1.2.2.2.2 ok.1 hl hR, X.1.2.2.2.2 _ ok.2, trivial⟩ ⟨tw_blind, tw_pre hP X.2 hD⟩ rfl hn hsz hst (lv_room hW) hdg hf
theorem tw_join {A0 : Nat → Prop} {H1 : Heap} (hP : va_P D vwCl ws H) (hD : va_D A0 ws) (hS : va_S A0 H0 H locs) (hA : ∀ q, H0.size ≤ q → A0 q) (hP1 : va_P D vwCl w1 H1) (hD1 : va_D (va_A ws H.size) w1) : va_D A0 w1 :=
  hD1.weaken (fun _ q _ h => va_free hD hS hA (List.range ws.length) (rg_all ws) q.1 h)
theorem go_i {rv : Int32} {a : Array Value} (hr : va_Run p l e R s m args below meth c H locs cells slots 0 0 (F0 m pc ls st) rest (QcI D ws w1 rv H.size a) (va_A ws H.size)) (hP : va_P D vwCl ws H) (hD : va_D A ws) (hS : va_S A H0 H locs) (hA : ∀ q, H0.size ≤ q → A q) (kk : ∀ (H1 : Heap) (locs1 : List Loc), va_P D vwCl w1 H1 → va_D A w1 → va_S A H0 H1 locs1 → W p l e R s m args below meth c H1 locs1 cells slots Q (F0 m (pc + 3) ls (.int rv :: rest))) : W p l e R s m args below meth c H locs cells slots Q (F0 m pc ls st) := by
  have hF := va_free hD hS hA (List.range ws.length) (rg_all ws)
  refine va_calli hr hS (fun q _ h => hF q h) hF (fun r u t H1 locs1 ht hvm hw hB hz1 hk1 hS1 => ?_)
  subst hw
  obtain ⟨hP1, hD1⟩ := hB
  rw [ht] at hP1
  exact kk H1 locs1 hP1 (tw_join hP hD hS hA hP1 hD1) hS1
theorem go_l {rv : Int64} {a : Array Value} (hr : va_Run p l e R s m args below meth c H locs cells slots 0 0 (F0 m pc ls st) rest (QcL D ws w1 rv H.size a) (va_A ws H.size)) (hP : va_P D vwCl ws H) (hD : va_D A ws) (hS : va_S A H0 H locs) (hA : ∀ q, H0.size ≤ q → A q) (kk : ∀ (H1 : Heap) (locs1 : List Loc), va_P D vwCl w1 H1 → va_D A w1 → va_S A H0 H1 locs1 → W p l e R s m args below meth c H1 locs1 cells slots Q (F0 m (pc + 3) ls (.long rv :: rest))) : W p l e R s m args below meth c H locs cells slots Q (F0 m pc ls st) := by
  have hF := va_free hD hS hA (List.range ws.length) (rg_all ws)
  refine va_calll hr hS (fun q _ h => hF q h) hF (fun r u t H1 locs1 ht hvm hw hB hz1 hk1 hS1 => ?_)
  subst hw
  obtain ⟨hP1, hD1⟩ := hB
  rw [ht] at hP1
  exact kk H1 locs1 hP1 (tw_join hP hD hS hA hP1 hD1) hS1
theorem go_v {a : Array Value} (hr : va_Run p l e R s m args below meth c H locs cells slots 0 0 (F0 m pc ls st) rest (QcV D ws w1 H.size a) (va_A ws H.size)) (hP : va_P D vwCl ws H) (hD : va_D A ws) (hS : va_S A H0 H locs) (hA : ∀ q, H0.size ≤ q → A q) (kk : ∀ (H1 : Heap) (locs1 : List Loc), va_P D vwCl w1 H1 → va_D A w1 → va_S A H0 H1 locs1 → W p l e R s m args below meth c H1 locs1 cells slots Q (F0 m (pc + 3) ls rest)) : W p l e R s m args below meth c H locs cells slots Q (F0 m pc ls st) := by
  have hF := va_free hD hS hA (List.range ws.length) (rg_all ws)
  refine va_callv hr hS (fun q _ h => hF q h) hF (fun u t H1 locs1 ht hvm hw hB hz1 hk1 hS1 => ?_)
  obtain ⟨hP1, hD1⟩ := hB
  rw [ht] at hP1
  exact kk H1 locs1 hP1 (tw_join hP hD hS hA hP1 hD1) hS1
/-- a method's entry -/
theorem ent {Qc : Nat → Array Value → State → Outcome → State → Prop} (ho : y.cls = own) (hy : plainName y.cls = true) (hsl : (lg_sl As).length ≤ nL)
    (body : ∀ (p : Program) (e : Env) (s : State) (m : MethodId) (below : List Frame) (meth : Method) (c : Code) (A : Nat → Prop) (ls : Array Slot), Cx p m c cc nL s As.toArray own D tys → meth.sig.returnType = ret → meth.locks = false → meth.name = y.name → A = va_A ws s.heap.size → (∀ q : Nat, s.heap.size ≤ q → A q) → va_P D vwCl ws s.heap → va_D A ws → va_S A s.heap s.heap [] → lv_has ls nL (lv_args 0 As) →
      W p l e (rmd d) s m As.toArray below meth c s.heap [] 0 0 (MQ below (Qc s.heap.size) As.toArray s 0 0 A) (F0 m 0 ls [])) : Mt l y cc nL ret d D tys As ws Qc := by
  subst ho
  intro sz
  refine Met.ofW (cc := cc) (maxL := nL) (ret := ret) hy rfl ?_
  intro p e s m args below meth c s₁ B hml hv
  obtain ⟨rfl, hsz, hP, hK, hD0⟩ := hv
  have hts := atoms_spec (ws := .code y cc nL ret :: big) B.pre
  have hown : s.vm.findClass y.cls = some m.cls := findClass_of_methodNamed B.named
  subst hsz
  have hl := lv_entry As (n := nL) hsl
  rw [lg_entry_eq]
  generalize (lg_sl As ++ List.replicate (nL - (lg_sl As).length) Slot.unset).toArray = ls at hl ⊢
  exact body p e s m below meth c (va_A ws s.heap.size) ls ⟨⟨B.exec, B.bytes, hml, hown, fun w h => hts w (List.mem_cons_of_mem _ h)⟩, hK⟩ B.returns B.notSynchronized (name_of_methodNamed B.named B.method).1 rfl (fun q h => Or.inr h) hP hD0.self va_S.rf hl
theorem rt_i {rv : Int32} (X : Cx p m c cc nL s args own D tys) (hP : va_P D vwCl w1 H) (hD : va_D A w1) (hS : va_S A s.heap H locs) (hAe : A = va_A ws s.heap.size) (hr : meth.sig.returnType = some .int) (hlk : meth.locks = false) (hdg : decode cc pc = .ok (.ireturn, 1)) : W p l e R s m args below meth c H locs 0 0 (MQ below (QcI D ws w1 rv s.heap.size) args s 0 0 A) (F0 m pc ls [.int rv]) := by
  subst hAe
  exact W.iret (v := rv) X.1.1 X.1.2.1 hr (fun t ht hW => ⟨⟨rv, (), rfl, rfl, by rw [ht]; exact hP, hD⟩, hS.F ht⟩) hS.2.2 hdg
theorem rt_z {rv : Bool} (X : Cx p m c cc nL s args own D tys) (hP : va_P D vwCl w1 H) (hD : va_D A w1) (hS : va_S A s.heap H locs) (hAe : A = va_A ws s.heap.size) (hr : meth.sig.returnType = some .boolean) (hlk : meth.locks = false) (hdg : decode cc pc = .ok (.ireturn, 1)) : W p l e R s m args below meth c H locs 0 0 (MQ below (QcI D ws w1 (b2i rv) s.heap.size) args s 0 0 A) (F0 m pc ls [.int (b2i rv)]) := by
  subst hAe
  exact W.zret (v := b2i rv) X.1.1 X.1.2.1 hr (b2i_nar rv) (fun t ht hW => ⟨⟨b2i rv, (), rfl, rfl, by rw [ht]; exact hP, hD⟩, hS.F ht⟩) hS.2.2 hdg
theorem rt_l {rv : Int64} (X : Cx p m c cc nL s args own D tys) (hP : va_P D vwCl w1 H) (hD : va_D A w1) (hS : va_S A s.heap H locs) (hAe : A = va_A ws s.heap.size) (hr : meth.sig.returnType = some .long) (hlk : meth.locks = false) (hdg : decode cc pc = .ok (.lreturn, 1)) : W p l e R s m args below meth c H locs 0 0 (MQ below (QcL D ws w1 rv s.heap.size) args s 0 0 A) (F0 m pc ls [.long rv]) := by
  subst hAe
  exact W.lret (v := rv) X.1.1 X.1.2.1 hr (fun t ht hW => ⟨⟨rv, (), rfl, rfl, by rw [ht]; exact hP, hD⟩, hS.F ht⟩) hS.2.2 hdg
theorem rt_v (X : Cx p m c cc nL s args own D tys) (hP : va_P D vwCl w1 H) (hD : va_D A w1) (hS : va_S A s.heap H locs) (hAe : A = va_A ws s.heap.size) (hr : meth.sig.returnType = none) (hlk : meth.locks = false) (hdg : decode cc pc = .ok (.return_, 1)) : W p l e R s m args below meth c H locs 0 0 (MQ below (QcV D ws w1 s.heap.size) args s 0 0 A) (F0 m pc ls []) := by
  subst hAe
  exact W.vret X.1.1 X.1.2.1 hr (fun t ht hW => ⟨⟨(), rfl, trivial, by rw [ht]; exact hP, hD⟩, hS.F ht⟩) hS.2.2 hdg
theorem tw_eqi {x y : Int32} (h : x = y) (k : W p l e R s m args below meth c H locs cells slots Q (F0 m pc ls (.int y :: rest))) : W p l e R s m args below meth c H locs cells slots Q (F0 m pc ls (.int x :: rest)) := h ▸ k
theorem tw_eql {x y : Int64} (h : x = y) (k : W p l e R s m args below meth c H locs cells slots Q (F0 m pc ls (.long y :: rest))) : W p l e R s m args below meth c H locs cells slots Q (F0 m pc ls (.long x :: rest)) := h ▸ k
theorem rg_i {F v : Int32} (hv : F = v) (X : Cx p m c cc nL s args own D tys) (hP : va_P D vwCl w1 H) (hD : va_D A w1) (hS : va_S A s.heap H locs) (hAe : A = va_A ws s.heap.size) (hr : meth.sig.returnType = some .int) (hlk : meth.locks = false) (hdg : decode cc pc = .ok (.ireturn, 1)) : W p l e R s m args below meth c H locs 0 0 (MQ below (QcI D ws w1 F s.heap.size) args s 0 0 A) (F0 m pc ls [.int v]) := by
  subst hv
  exact rt_i X hP hD hS hAe hr hlk hdg
theorem rg_z {F v : Bool} (hv : F = v) (X : Cx p m c cc nL s args own D tys) (hP : va_P D vwCl w1 H) (hD : va_D A w1) (hS : va_S A s.heap H locs) (hAe : A = va_A ws s.heap.size) (hr : meth.sig.returnType = some .boolean) (hlk : meth.locks = false) (hdg : decode cc pc = .ok (.ireturn, 1)) : W p l e R s m args below meth c H locs 0 0 (MQ below (QcI D ws w1 (b2i F) s.heap.size) args s 0 0 A) (F0 m pc ls [.int (b2i v)]) := by
  subst hv
  exact rt_z X hP hD hS hAe hr hlk hdg
theorem rg_l {F v : Int64} (hv : F = v) (X : Cx p m c cc nL s args own D tys) (hP : va_P D vwCl w1 H) (hD : va_D A w1) (hS : va_S A s.heap H locs) (hAe : A = va_A ws s.heap.size) (hr : meth.sig.returnType = some .long) (hlk : meth.locks = false) (hdg : decode cc pc = .ok (.lreturn, 1)) : W p l e R s m args below meth c H locs 0 0 (MQ below (QcL D ws w1 F s.heap.size) args s 0 0 A) (F0 m pc ls [.long v]) := by
  subst hv
  exact rt_l X hP hD hS hAe hr hlk hdg
theorem rku_i {q : Nat → Nat} {ca : Nat → ClassId} {nW nB : Nat} {F : Int32 × KS} {v : Int32} {E1 : KS} (hv : F = (v, E1)) (X : Cx p m c cc nL s args own D tys) (hP : va_P D vwCl (cwK q ca nW nB E1) H) (hD : va_D A (cwK q ca nW nB E1)) (hS : va_S A s.heap H locs) (hAe : A = va_A ws s.heap.size) (hr : meth.sig.returnType = some .int) (hlk : meth.locks = false) (hdg : decode cc pc = .ok (.ireturn, 1)) : W p l e R s m args below meth c H locs 0 0 (MQ below (QcI D ws (cwK q ca nW nB F.2) F.1 s.heap.size) args s 0 0 A) (F0 m pc ls [.int v]) := by
  subst hv
  exact rt_i X hP hD hS hAe hr hlk hdg
theorem rku_z {q : Nat → Nat} {ca : Nat → ClassId} {nW nB : Nat} {F : Bool × KS} {v : Bool} {E1 : KS} (hv : F = (v, E1)) (X : Cx p m c cc nL s args own D tys) (hP : va_P D vwCl (cwK q ca nW nB E1) H) (hD : va_D A (cwK q ca nW nB E1)) (hS : va_S A s.heap H locs) (hAe : A = va_A ws s.heap.size) (hr : meth.sig.returnType = some .boolean) (hlk : meth.locks = false) (hdg : decode cc pc = .ok (.ireturn, 1)) : W p l e R s m args below meth c H locs 0 0 (MQ below (QcI D ws (cwK q ca nW nB F.2) (b2i F.1) s.heap.size) args s 0 0 A) (F0 m pc ls [.int (b2i v)]) := by
  subst hv
  exact rt_z X hP hD hS hAe hr hlk hdg
theorem rku_l {q : Nat → Nat} {ca : Nat → ClassId} {nW nB : Nat} {F : Int64 × KS} {v : Int64} {E1 : KS} (hv : F = (v, E1)) (X : Cx p m c cc nL s args own D tys) (hP : va_P D vwCl (cwK q ca nW nB E1) H) (hD : va_D A (cwK q ca nW nB E1)) (hS : va_S A s.heap H locs) (hAe : A = va_A ws s.heap.size) (hr : meth.sig.returnType = some .long) (hlk : meth.locks = false) (hdg : decode cc pc = .ok (.lreturn, 1)) : W p l e R s m args below meth c H locs 0 0 (MQ below (QcL D ws (cwK q ca nW nB F.2) F.1 s.heap.size) args s 0 0 A) (F0 m pc ls [.long v]) := by
  subst hv
  exact rt_l X hP hD hS hAe hr hlk hdg
theorem rku_v {q : Nat → Nat} {ca : Nat → ClassId} {nW nB : Nat} {F E1 : KS} (hv : F = E1) (X : Cx p m c cc nL s args own D tys) (hP : va_P D vwCl (cwK q ca nW nB E1) H) (hD : va_D A (cwK q ca nW nB E1)) (hS : va_S A s.heap H locs) (hAe : A = va_A ws s.heap.size) (hr : meth.sig.returnType = none) (hlk : meth.locks = false) (hdg : decode cc pc = .ok (.return_, 1)) : W p l e R s m args below meth c H locs 0 0 (MQ below (QcV D ws (cwK q ca nW nB F) s.heap.size) args s 0 0 A) (F0 m pc ls []) := by
  subst hv
  exact rt_v X hP hD hS hAe hr hlk hdg
theorem rmu_i {q : Nat → Nat} {ca : Nat → ClassId} {sz mo : Int32} {F : Int32 × MS} {v : Int32} {E1 : MS} (hv : F = (v, E1)) (X : Cx p m c cc nL s args own D tys) (hP : va_P D vwCl (cwM q ca sz mo E1) H) (hD : va_D A (cwM q ca sz mo E1)) (hS : va_S A s.heap H locs) (hAe : A = va_A ws s.heap.size) (hr : meth.sig.returnType = some .int) (hlk : meth.locks = false) (hdg : decode cc pc = .ok (.ireturn, 1)) : W p l e R s m args below meth c H locs 0 0 (MQ below (QcI D ws (cwM q ca sz mo F.2) F.1 s.heap.size) args s 0 0 A) (F0 m pc ls [.int v]) := by
  subst hv
  exact rt_i X hP hD hS hAe hr hlk hdg
theorem rmu_z {q : Nat → Nat} {ca : Nat → ClassId} {sz mo : Int32} {F : Bool × MS} {v : Bool} {E1 : MS} (hv : F = (v, E1)) (X : Cx p m c cc nL s args own D tys) (hP : va_P D vwCl (cwM q ca sz mo E1) H) (hD : va_D A (cwM q ca sz mo E1)) (hS : va_S A s.heap H locs) (hAe : A = va_A ws s.heap.size) (hr : meth.sig.returnType = some .boolean) (hlk : meth.locks = false) (hdg : decode cc pc = .ok (.ireturn, 1)) : W p l e R s m args below meth c H locs 0 0 (MQ below (QcI D ws (cwM q ca sz mo F.2) (b2i F.1) s.heap.size) args s 0 0 A) (F0 m pc ls [.int (b2i v)]) := by
  subst hv
  exact rt_z X hP hD hS hAe hr hlk hdg
theorem rmu_l {q : Nat → Nat} {ca : Nat → ClassId} {sz mo : Int32} {F : Int64 × MS} {v : Int64} {E1 : MS} (hv : F = (v, E1)) (X : Cx p m c cc nL s args own D tys) (hP : va_P D vwCl (cwM q ca sz mo E1) H) (hD : va_D A (cwM q ca sz mo E1)) (hS : va_S A s.heap H locs) (hAe : A = va_A ws s.heap.size) (hr : meth.sig.returnType = some .long) (hlk : meth.locks = false) (hdg : decode cc pc = .ok (.lreturn, 1)) : W p l e R s m args below meth c H locs 0 0 (MQ below (QcL D ws (cwM q ca sz mo F.2) F.1 s.heap.size) args s 0 0 A) (F0 m pc ls [.long v]) := by
  subst hv
  exact rt_l X hP hD hS hAe hr hlk hdg
theorem rmu_v {q : Nat → Nat} {ca : Nat → ClassId} {sz mo : Int32} {F E1 : MS} (hv : F = E1) (X : Cx p m c cc nL s args own D tys) (hP : va_P D vwCl (cwM q ca sz mo E1) H) (hD : va_D A (cwM q ca sz mo E1)) (hS : va_S A s.heap H locs) (hAe : A = va_A ws s.heap.size) (hr : meth.sig.returnType = none) (hlk : meth.locks = false) (hdg : decode cc pc = .ok (.return_, 1)) : W p l e R s m args below meth c H locs 0 0 (MQ below (QcV D ws (cwM q ca sz mo F) s.heap.size) args s 0 0 A) (F0 m pc ls []) := by
  subst hv
  exact rt_v X hP hD hS hAe hr hlk hdg
end TW
