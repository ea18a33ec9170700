theorem px_ne {x c : Int32} {v : Int} (hv : c.toInt = v) (n : ¬ x = c) : x.toInt ≠ v := fun h => n (Int32.toInt_inj.mp (h.trans hv.symm))
