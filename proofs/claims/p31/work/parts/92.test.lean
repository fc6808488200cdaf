def tb (h s cs z r : List Int32) : RW := fun j => if j < 7 then h.getD j 0 else if j < 47 then s.getD (j - 7) 0 else if j < 247 then cs.getD (j - 47) 0 else if j < 759 then z.getD (j - 247) 0 else r.getD (j - 759) 0
def TT1 : RW := tb [0, 0, 1, 4, 4, 1, 0] [7, 1, 0, 0, 1] [418, 0, -6, -6, -6, 232, 0, -6, -6, -6, 1237, 2, 64, 0, -6, 145, 1, 0, -6, -6] [0, 64, 128, 192] [0, 0, 0, 0]
theorem test6 : (fX11_core TT1 zR 232).isSome = true := by decide +kernel
