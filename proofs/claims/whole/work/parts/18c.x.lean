theorem mkw1 (F : MS) (b : Bool) (W B : Nat → Int32) (lat : Int32) (ret : Int64) : kwaiting_ (mkK F W B lat ret) b = mkK (mwaits_ F b) W B lat ret := rfl
theorem mk_next (F : MS) (v : Int32) (W B : Nat → Int32) (lat : Int32) (ret : Int64) : mkK (mnext_ F v) W B lat ret = mkK F W B lat ret := rfl
theorem mk_word (F : MS) (v : Int32) (W B : Nat → Int32) (lat : Int32) (ret : Int64) : mkK (mword_ F v) W B lat ret = mkK F W B lat ret := rfl
theorem lat_mk1 (F : MS) (W B : Nat → Int32) (lat r : Int32) (t : Int64) : klatest_ (mkK F W B lat t) r = mkK F W B r t := rfl
theorem mk_latest (F : MS) (v : Int32) (W B : Nat → Int32) (lat : Int32) (ret : Int64) : mkK (mlatest_ F v) W B lat ret = mkK F W B lat ret := rfl
theorem mk_retired (F : MS) (v : Int64) (W B : Nat → Int32) (lat : Int32) (ret : Int64) : mkK (mretired_ F v) W B lat ret = mkK F W B lat ret := rfl
