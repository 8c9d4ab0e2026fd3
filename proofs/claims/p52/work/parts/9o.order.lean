def j1 (x : Int32) : Int32 := x - (zush x 1 &&& 1431655765)
def j2 (x : Int32) : Int32 := (x &&& 858993459) + (zush x 2 &&& 858993459)
def j3 (x : Int32) : Int32 := (x + zush x 4) &&& 252645135
