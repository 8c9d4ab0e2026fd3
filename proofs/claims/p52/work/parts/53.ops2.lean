/-- the lists of places that hold rows -/
def kRo : List Nat := [4, 5, 6, 7, 8, 9, 10, 11, 12, 13, 14, 15]
