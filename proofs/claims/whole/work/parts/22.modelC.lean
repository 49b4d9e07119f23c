def F_X9_goes_k210_19 (τ : St) (a1 : Int32) (a2 : Int32) (a3 : Int32) (u11 : St) (u18 : St) : Int32 × St := ((0 : Int32), u18)
def F_X9_goes_k113_12 (τ : St) (a1 : Int32) (a2 : Int32) (a3 : Int32) (u11 : St) : Int32 × St := (if ((upd (upd (upd (u11.2.1 53) ((4 : Int32) + a1).toNatClampNeg (((u11.2.1 53) ((4 : Int32) + a1).toNatClampNeg) - a3)) a1.toNatClampNeg (if (if ((τ.2.1 53) a1.toNatClampNeg) = ((τ.2.1 50) ((10 : Int32) + a2).toNatClampNeg) then (1 : Int32) else (0 : Int32)) = 0 then ((u11.2.1 50) ((10 : Int32) + a2).toNatClampNeg) else ((u11.2.1 50) ((18 : Int32) + a2).toNatClampNeg))) ((8 : Int32) + a1).toNatClampNeg (((upd (upd (u11.2.1 53) ((4 : Int32) + a1).toNatClampNeg (((u11.2.1 53) ((4 : Int32) + a1).toNatClampNeg) - a3)) a1.toNatClampNeg (if (if ((τ.2.1 53) a1.toNatClampNeg) = ((τ.2.1 50) ((10 : Int32) + a2).toNatClampNeg) then (1 : Int32) else (0 : Int32)) = 0 then ((u11.2.1 50) ((10 : Int32) + a2).toNatClampNeg) else ((u11.2.1 50) ((18 : Int32) + a2).toNatClampNeg))) ((8 : Int32) + a1).toNatClampNeg) + (((u11.2.1 50) ((26 : Int32) + a2).toNatClampNeg) - a3))) ((8 : Int32) + a1).toNatClampNeg) ≤ ((u11.2.1 50) ((50 : Int32) + a1).toNatClampNeg) then (if 0 ≤ (((upd (upd (upd (u11.2.1 53) ((4 : Int32) + a1).toNatClampNeg (((u11.2.1 53) ((4 : Int32) + a1).toNatClampNeg) - a3)) a1.toNatClampNeg (if (if ((τ.2.1 53) a1.toNatClampNeg) = ((τ.2.1 50) ((10 : Int32) + a2).toNatClampNeg) then (1 : Int32) else (0 : Int32)) = 0 then ((u11.2.1 50) ((10 : Int32) + a2).toNatClampNeg) else ((u11.2.1 50) ((18 : Int32) + a2).toNatClampNeg))) ((8 : Int32) + a1).toNatClampNeg (((upd (upd (u11.2.1 53) ((4 : Int32) + a1).toNatClampNeg (((u11.2.1 53) ((4 : Int32) + a1).toNatClampNeg) - a3)) a1.toNatClampNeg (if (if ((τ.2.1 53) a1.toNatClampNeg) = ((τ.2.1 50) ((10 : Int32) + a2).toNatClampNeg) then (1 : Int32) else (0 : Int32)) = 0 then ((u11.2.1 50) ((10 : Int32) + a2).toNatClampNeg) else ((u11.2.1 50) ((18 : Int32) + a2).toNatClampNeg))) ((8 : Int32) + a1).toNatClampNeg) + (((u11.2.1 50) ((26 : Int32) + a2).toNatClampNeg) - a3))) (((14 : Int32) + ((6 : Int32) * a1)) + ((u11.2.1 50) ((42 : Int32) + a2).toNatClampNeg)).toNatClampNeg) - (F_X9_paid (sa u11 53 (upd (upd (upd (u11.2.1 53) ((4 : Int32) + a1).toNatClampNeg (((u11.2.1 53) ((4 : Int32) + a1).toNatClampNeg) - a3)) a1.toNatClampNeg (if (if ((τ.2.1 53) a1.toNatClampNeg) = ((τ.2.1 50) ((10 : Int32) + a2).toNatClampNeg) then (1 : Int32) else (0 : Int32)) = 0 then ((u11.2.1 50) ((10 : Int32) + a2).toNatClampNeg) else ((u11.2.1 50) ((18 : Int32) + a2).toNatClampNeg))) ((8 : Int32) + a1).toNatClampNeg (((upd (upd (u11.2.1 53) ((4 : Int32) + a1).toNatClampNeg (((u11.2.1 53) ((4 : Int32) + a1).toNatClampNeg) - a3)) a1.toNatClampNeg (if (if ((τ.2.1 53) a1.toNatClampNeg) = ((τ.2.1 50) ((10 : Int32) + a2).toNatClampNeg) then (1 : Int32) else (0 : Int32)) = 0 then ((u11.2.1 50) ((10 : Int32) + a2).toNatClampNeg) else ((u11.2.1 50) ((18 : Int32) + a2).toNatClampNeg))) ((8 : Int32) + a1).toNatClampNeg) + (((u11.2.1 50) ((26 : Int32) + a2).toNatClampNeg) - a3)))) a2 (((u11.2.1 50) ((26 : Int32) + a2).toNatClampNeg) - a3))) then ((1 : Int32), (sa u11 53 (upd (upd (upd (upd (u11.2.1 53) ((4 : Int32) + a1).toNatClampNeg (((u11.2.1 53) ((4 : Int32) + a1).toNatClampNeg) - a3)) a1.toNatClampNeg (if (if ((τ.2.1 53) a1.toNatClampNeg) = ((τ.2.1 50) ((10 : Int32) + a2).toNatClampNeg) then (1 : Int32) else (0 : Int32)) = 0 then ((u11.2.1 50) ((10 : Int32) + a2).toNatClampNeg) else ((u11.2.1 50) ((18 : Int32) + a2).toNatClampNeg))) ((8 : Int32) + a1).toNatClampNeg (((upd (upd (u11.2.1 53) ((4 : Int32) + a1).toNatClampNeg (((u11.2.1 53) ((4 : Int32) + a1).toNatClampNeg) - a3)) a1.toNatClampNeg (if (if ((τ.2.1 53) a1.toNatClampNeg) = ((τ.2.1 50) ((10 : Int32) + a2).toNatClampNeg) then (1 : Int32) else (0 : Int32)) = 0 then ((u11.2.1 50) ((10 : Int32) + a2).toNatClampNeg) else ((u11.2.1 50) ((18 : Int32) + a2).toNatClampNeg))) ((8 : Int32) + a1).toNatClampNeg) + (((u11.2.1 50) ((26 : Int32) + a2).toNatClampNeg) - a3))) (((14 : Int32) + ((6 : Int32) * a1)) + ((u11.2.1 50) ((42 : Int32) + a2).toNatClampNeg)).toNatClampNeg (((upd (upd (upd (u11.2.1 53) ((4 : Int32) + a1).toNatClampNeg (((u11.2.1 53) ((4 : Int32) + a1).toNatClampNeg) - a3)) a1.toNatClampNeg (if (if ((τ.2.1 53) a1.toNatClampNeg) = ((τ.2.1 50) ((10 : Int32) + a2).toNatClampNeg) then (1 : Int32) else (0 : Int32)) = 0 then ((u11.2.1 50) ((10 : Int32) + a2).toNatClampNeg) else ((u11.2.1 50) ((18 : Int32) + a2).toNatClampNeg))) ((8 : Int32) + a1).toNatClampNeg (((upd (upd (u11.2.1 53) ((4 : Int32) + a1).toNatClampNeg (((u11.2.1 53) ((4 : Int32) + a1).toNatClampNeg) - a3)) a1.toNatClampNeg (if (if ((τ.2.1 53) a1.toNatClampNeg) = ((τ.2.1 50) ((10 : Int32) + a2).toNatClampNeg) then (1 : Int32) else (0 : Int32)) = 0 then ((u11.2.1 50) ((10 : Int32) + a2).toNatClampNeg) else ((u11.2.1 50) ((18 : Int32) + a2).toNatClampNeg))) ((8 : Int32) + a1).toNatClampNeg) + (((u11.2.1 50) ((26 : Int32) + a2).toNatClampNeg) - a3))) (((14 : Int32) + ((6 : Int32) * a1)) + ((u11.2.1 50) ((42 : Int32) + a2).toNatClampNeg)).toNatClampNeg) - (F_X9_paid (sa u11 53 (upd (upd (upd (u11.2.1 53) ((4 : Int32) + a1).toNatClampNeg (((u11.2.1 53) ((4 : Int32) + a1).toNatClampNeg) - a3)) a1.toNatClampNeg (if (if ((τ.2.1 53) a1.toNatClampNeg) = ((τ.2.1 50) ((10 : Int32) + a2).toNatClampNeg) then (1 : Int32) else (0 : Int32)) = 0 then ((u11.2.1 50) ((10 : Int32) + a2).toNatClampNeg) else ((u11.2.1 50) ((18 : Int32) + a2).toNatClampNeg))) ((8 : Int32) + a1).toNatClampNeg (((upd (upd (u11.2.1 53) ((4 : Int32) + a1).toNatClampNeg (((u11.2.1 53) ((4 : Int32) + a1).toNatClampNeg) - a3)) a1.toNatClampNeg (if (if ((τ.2.1 53) a1.toNatClampNeg) = ((τ.2.1 50) ((10 : Int32) + a2).toNatClampNeg) then (1 : Int32) else (0 : Int32)) = 0 then ((u11.2.1 50) ((10 : Int32) + a2).toNatClampNeg) else ((u11.2.1 50) ((18 : Int32) + a2).toNatClampNeg))) ((8 : Int32) + a1).toNatClampNeg) + (((u11.2.1 50) ((26 : Int32) + a2).toNatClampNeg) - a3)))) a2 (((u11.2.1 50) ((26 : Int32) + a2).toNatClampNeg) - a3)))))) else ((1 : Int32), (sa u11 53 (upd (upd (upd (upd (u11.2.1 53) ((4 : Int32) + a1).toNatClampNeg (((u11.2.1 53) ((4 : Int32) + a1).toNatClampNeg) - a3)) a1.toNatClampNeg (if (if ((τ.2.1 53) a1.toNatClampNeg) = ((τ.2.1 50) ((10 : Int32) + a2).toNatClampNeg) then (1 : Int32) else (0 : Int32)) = 0 then ((u11.2.1 50) ((10 : Int32) + a2).toNatClampNeg) else ((u11.2.1 50) ((18 : Int32) + a2).toNatClampNeg))) ((8 : Int32) + a1).toNatClampNeg (((upd (upd (u11.2.1 53) ((4 : Int32) + a1).toNatClampNeg (((u11.2.1 53) ((4 : Int32) + a1).toNatClampNeg) - a3)) a1.toNatClampNeg (if (if ((τ.2.1 53) a1.toNatClampNeg) = ((τ.2.1 50) ((10 : Int32) + a2).toNatClampNeg) then (1 : Int32) else (0 : Int32)) = 0 then ((u11.2.1 50) ((10 : Int32) + a2).toNatClampNeg) else ((u11.2.1 50) ((18 : Int32) + a2).toNatClampNeg))) ((8 : Int32) + a1).toNatClampNeg) + (((u11.2.1 50) ((26 : Int32) + a2).toNatClampNeg) - a3))) (((14 : Int32) + ((6 : Int32) * a1)) + ((u11.2.1 50) ((42 : Int32) + a2).toNatClampNeg)).toNatClampNeg (0 : Int32))))) else (F_X9_goes_k210_19 τ a1 a2 a3 u11 (F_X9_dies (sa u11 53 (upd (upd (upd (u11.2.1 53) ((4 : Int32) + a1).toNatClampNeg (((u11.2.1 53) ((4 : Int32) + a1).toNatClampNeg) - a3)) a1.toNatClampNeg (if (if ((τ.2.1 53) a1.toNatClampNeg) = ((τ.2.1 50) ((10 : Int32) + a2).toNatClampNeg) then (1 : Int32) else (0 : Int32)) = 0 then ((u11.2.1 50) ((10 : Int32) + a2).toNatClampNeg) else ((u11.2.1 50) ((18 : Int32) + a2).toNatClampNeg))) ((8 : Int32) + a1).toNatClampNeg (((upd (upd (u11.2.1 53) ((4 : Int32) + a1).toNatClampNeg (((u11.2.1 53) ((4 : Int32) + a1).toNatClampNeg) - a3)) a1.toNatClampNeg (if (if ((τ.2.1 53) a1.toNatClampNeg) = ((τ.2.1 50) ((10 : Int32) + a2).toNatClampNeg) then (1 : Int32) else (0 : Int32)) = 0 then ((u11.2.1 50) ((10 : Int32) + a2).toNatClampNeg) else ((u11.2.1 50) ((18 : Int32) + a2).toNatClampNeg))) ((8 : Int32) + a1).toNatClampNeg) + (((u11.2.1 50) ((26 : Int32) + a2).toNatClampNeg) - a3)))) a1)))
def F_X9_goes_k210_31 (τ : St) (a1 : Int32) (a2 : Int32) (a3 : Int32) (u23 : St) (u30 : St) : Int32 × St := ((0 : Int32), u30)
def F_X9_goes_k113_24 (τ : St) (a1 : Int32) (a2 : Int32) (a3 : Int32) (u23 : St) : Int32 × St := (if ((upd (upd (upd (u23.2.1 53) ((4 : Int32) + a1).toNatClampNeg (((u23.2.1 53) ((4 : Int32) + a1).toNatClampNeg) - a3)) a1.toNatClampNeg (if (if ((τ.2.1 53) a1.toNatClampNeg) = ((τ.2.1 50) ((10 : Int32) + a2).toNatClampNeg) then (1 : Int32) else (0 : Int32)) = 0 then ((u23.2.1 50) ((10 : Int32) + a2).toNatClampNeg) else ((u23.2.1 50) ((18 : Int32) + a2).toNatClampNeg))) ((8 : Int32) + a1).toNatClampNeg (((upd (upd (u23.2.1 53) ((4 : Int32) + a1).toNatClampNeg (((u23.2.1 53) ((4 : Int32) + a1).toNatClampNeg) - a3)) a1.toNatClampNeg (if (if ((τ.2.1 53) a1.toNatClampNeg) = ((τ.2.1 50) ((10 : Int32) + a2).toNatClampNeg) then (1 : Int32) else (0 : Int32)) = 0 then ((u23.2.1 50) ((10 : Int32) + a2).toNatClampNeg) else ((u23.2.1 50) ((18 : Int32) + a2).toNatClampNeg))) ((8 : Int32) + a1).toNatClampNeg) + (((u23.2.1 50) ((26 : Int32) + a2).toNatClampNeg) - a3))) ((8 : Int32) + a1).toNatClampNeg) ≤ ((u23.2.1 50) ((50 : Int32) + a1).toNatClampNeg) then (if 0 ≤ (((upd (upd (upd (u23.2.1 53) ((4 : Int32) + a1).toNatClampNeg (((u23.2.1 53) ((4 : Int32) + a1).toNatClampNeg) - a3)) a1.toNatClampNeg (if (if ((τ.2.1 53) a1.toNatClampNeg) = ((τ.2.1 50) ((10 : Int32) + a2).toNatClampNeg) then (1 : Int32) else (0 : Int32)) = 0 then ((u23.2.1 50) ((10 : Int32) + a2).toNatClampNeg) else ((u23.2.1 50) ((18 : Int32) + a2).toNatClampNeg))) ((8 : Int32) + a1).toNatClampNeg (((upd (upd (u23.2.1 53) ((4 : Int32) + a1).toNatClampNeg (((u23.2.1 53) ((4 : Int32) + a1).toNatClampNeg) - a3)) a1.toNatClampNeg (if (if ((τ.2.1 53) a1.toNatClampNeg) = ((τ.2.1 50) ((10 : Int32) + a2).toNatClampNeg) then (1 : Int32) else (0 : Int32)) = 0 then ((u23.2.1 50) ((10 : Int32) + a2).toNatClampNeg) else ((u23.2.1 50) ((18 : Int32) + a2).toNatClampNeg))) ((8 : Int32) + a1).toNatClampNeg) + (((u23.2.1 50) ((26 : Int32) + a2).toNatClampNeg) - a3))) (((14 : Int32) + ((6 : Int32) * a1)) + ((u23.2.1 50) ((42 : Int32) + a2).toNatClampNeg)).toNatClampNeg) - (F_X9_paid (sa u23 53 (upd (upd (upd (u23.2.1 53) ((4 : Int32) + a1).toNatClampNeg (((u23.2.1 53) ((4 : Int32) + a1).toNatClampNeg) - a3)) a1.toNatClampNeg (if (if ((τ.2.1 53) a1.toNatClampNeg) = ((τ.2.1 50) ((10 : Int32) + a2).toNatClampNeg) then (1 : Int32) else (0 : Int32)) = 0 then ((u23.2.1 50) ((10 : Int32) + a2).toNatClampNeg) else ((u23.2.1 50) ((18 : Int32) + a2).toNatClampNeg))) ((8 : Int32) + a1).toNatClampNeg (((upd (upd (u23.2.1 53) ((4 : Int32) + a1).toNatClampNeg (((u23.2.1 53) ((4 : Int32) + a1).toNatClampNeg) - a3)) a1.toNatClampNeg (if (if ((τ.2.1 53) a1.toNatClampNeg) = ((τ.2.1 50) ((10 : Int32) + a2).toNatClampNeg) then (1 : Int32) else (0 : Int32)) = 0 then ((u23.2.1 50) ((10 : Int32) + a2).toNatClampNeg) else ((u23.2.1 50) ((18 : Int32) + a2).toNatClampNeg))) ((8 : Int32) + a1).toNatClampNeg) + (((u23.2.1 50) ((26 : Int32) + a2).toNatClampNeg) - a3)))) a2 (((u23.2.1 50) ((26 : Int32) + a2).toNatClampNeg) - a3))) then ((1 : Int32), (sa u23 53 (upd (upd (upd (upd (u23.2.1 53) ((4 : Int32) + a1).toNatClampNeg (((u23.2.1 53) ((4 : Int32) + a1).toNatClampNeg) - a3)) a1.toNatClampNeg (if (if ((τ.2.1 53) a1.toNatClampNeg) = ((τ.2.1 50) ((10 : Int32) + a2).toNatClampNeg) then (1 : Int32) else (0 : Int32)) = 0 then ((u23.2.1 50) ((10 : Int32) + a2).toNatClampNeg) else ((u23.2.1 50) ((18 : Int32) + a2).toNatClampNeg))) ((8 : Int32) + a1).toNatClampNeg (((upd (upd (u23.2.1 53) ((4 : Int32) + a1).toNatClampNeg (((u23.2.1 53) ((4 : Int32) + a1).toNatClampNeg) - a3)) a1.toNatClampNeg (if (if ((τ.2.1 53) a1.toNatClampNeg) = ((τ.2.1 50) ((10 : Int32) + a2).toNatClampNeg) then (1 : Int32) else (0 : Int32)) = 0 then ((u23.2.1 50) ((10 : Int32) + a2).toNatClampNeg) else ((u23.2.1 50) ((18 : Int32) + a2).toNatClampNeg))) ((8 : Int32) + a1).toNatClampNeg) + (((u23.2.1 50) ((26 : Int32) + a2).toNatClampNeg) - a3))) (((14 : Int32) + ((6 : Int32) * a1)) + ((u23.2.1 50) ((42 : Int32) + a2).toNatClampNeg)).toNatClampNeg (((upd (upd (upd (u23.2.1 53) ((4 : Int32) + a1).toNatClampNeg (((u23.2.1 53) ((4 : Int32) + a1).toNatClampNeg) - a3)) a1.toNatClampNeg (if (if ((τ.2.1 53) a1.toNatClampNeg) = ((τ.2.1 50) ((10 : Int32) + a2).toNatClampNeg) then (1 : Int32) else (0 : Int32)) = 0 then ((u23.2.1 50) ((10 : Int32) + a2).toNatClampNeg) else ((u23.2.1 50) ((18 : Int32) + a2).toNatClampNeg))) ((8 : Int32) + a1).toNatClampNeg (((upd (upd (u23.2.1 53) ((4 : Int32) + a1).toNatClampNeg (((u23.2.1 53) ((4 : Int32) + a1).toNatClampNeg) - a3)) a1.toNatClampNeg (if (if ((τ.2.1 53) a1.toNatClampNeg) = ((τ.2.1 50) ((10 : Int32) + a2).toNatClampNeg) then (1 : Int32) else (0 : Int32)) = 0 then ((u23.2.1 50) ((10 : Int32) + a2).toNatClampNeg) else ((u23.2.1 50) ((18 : Int32) + a2).toNatClampNeg))) ((8 : Int32) + a1).toNatClampNeg) + (((u23.2.1 50) ((26 : Int32) + a2).toNatClampNeg) - a3))) (((14 : Int32) + ((6 : Int32) * a1)) + ((u23.2.1 50) ((42 : Int32) + a2).toNatClampNeg)).toNatClampNeg) - (F_X9_paid (sa u23 53 (upd (upd (upd (u23.2.1 53) ((4 : Int32) + a1).toNatClampNeg (((u23.2.1 53) ((4 : Int32) + a1).toNatClampNeg) - a3)) a1.toNatClampNeg (if (if ((τ.2.1 53) a1.toNatClampNeg) = ((τ.2.1 50) ((10 : Int32) + a2).toNatClampNeg) then (1 : Int32) else (0 : Int32)) = 0 then ((u23.2.1 50) ((10 : Int32) + a2).toNatClampNeg) else ((u23.2.1 50) ((18 : Int32) + a2).toNatClampNeg))) ((8 : Int32) + a1).toNatClampNeg (((upd (upd (u23.2.1 53) ((4 : Int32) + a1).toNatClampNeg (((u23.2.1 53) ((4 : Int32) + a1).toNatClampNeg) - a3)) a1.toNatClampNeg (if (if ((τ.2.1 53) a1.toNatClampNeg) = ((τ.2.1 50) ((10 : Int32) + a2).toNatClampNeg) then (1 : Int32) else (0 : Int32)) = 0 then ((u23.2.1 50) ((10 : Int32) + a2).toNatClampNeg) else ((u23.2.1 50) ((18 : Int32) + a2).toNatClampNeg))) ((8 : Int32) + a1).toNatClampNeg) + (((u23.2.1 50) ((26 : Int32) + a2).toNatClampNeg) - a3)))) a2 (((u23.2.1 50) ((26 : Int32) + a2).toNatClampNeg) - a3)))))) else ((1 : Int32), (sa u23 53 (upd (upd (upd (upd (u23.2.1 53) ((4 : Int32) + a1).toNatClampNeg (((u23.2.1 53) ((4 : Int32) + a1).toNatClampNeg) - a3)) a1.toNatClampNeg (if (if ((τ.2.1 53) a1.toNatClampNeg) = ((τ.2.1 50) ((10 : Int32) + a2).toNatClampNeg) then (1 : Int32) else (0 : Int32)) = 0 then ((u23.2.1 50) ((10 : Int32) + a2).toNatClampNeg) else ((u23.2.1 50) ((18 : Int32) + a2).toNatClampNeg))) ((8 : Int32) + a1).toNatClampNeg (((upd (upd (u23.2.1 53) ((4 : Int32) + a1).toNatClampNeg (((u23.2.1 53) ((4 : Int32) + a1).toNatClampNeg) - a3)) a1.toNatClampNeg (if (if ((τ.2.1 53) a1.toNatClampNeg) = ((τ.2.1 50) ((10 : Int32) + a2).toNatClampNeg) then (1 : Int32) else (0 : Int32)) = 0 then ((u23.2.1 50) ((10 : Int32) + a2).toNatClampNeg) else ((u23.2.1 50) ((18 : Int32) + a2).toNatClampNeg))) ((8 : Int32) + a1).toNatClampNeg) + (((u23.2.1 50) ((26 : Int32) + a2).toNatClampNeg) - a3))) (((14 : Int32) + ((6 : Int32) * a1)) + ((u23.2.1 50) ((42 : Int32) + a2).toNatClampNeg)).toNatClampNeg (0 : Int32))))) else (F_X9_goes_k210_31 τ a1 a2 a3 u23 (F_X9_dies (sa u23 53 (upd (upd (upd (u23.2.1 53) ((4 : Int32) + a1).toNatClampNeg (((u23.2.1 53) ((4 : Int32) + a1).toNatClampNeg) - a3)) a1.toNatClampNeg (if (if ((τ.2.1 53) a1.toNatClampNeg) = ((τ.2.1 50) ((10 : Int32) + a2).toNatClampNeg) then (1 : Int32) else (0 : Int32)) = 0 then ((u23.2.1 50) ((10 : Int32) + a2).toNatClampNeg) else ((u23.2.1 50) ((18 : Int32) + a2).toNatClampNeg))) ((8 : Int32) + a1).toNatClampNeg (((upd (upd (u23.2.1 53) ((4 : Int32) + a1).toNatClampNeg (((u23.2.1 53) ((4 : Int32) + a1).toNatClampNeg) - a3)) a1.toNatClampNeg (if (if ((τ.2.1 53) a1.toNatClampNeg) = ((τ.2.1 50) ((10 : Int32) + a2).toNatClampNeg) then (1 : Int32) else (0 : Int32)) = 0 then ((u23.2.1 50) ((10 : Int32) + a2).toNatClampNeg) else ((u23.2.1 50) ((18 : Int32) + a2).toNatClampNeg))) ((8 : Int32) + a1).toNatClampNeg) + (((u23.2.1 50) ((26 : Int32) + a2).toNatClampNeg) - a3)))) a1)))
def F_X9_goes (τ : St) (a1 : Int32) (a2 : Int32) (a3 : Int32) : Int32 × St := (if (F_X9_isCaravan τ a1) = 0 then (((-1) : Int32), τ) else (if (F_X9_isStage τ a2) = 0 then (((-1) : Int32), τ) else (if (F_X9_in a3 (0 : Int32) (9 : Int32)) = 0 then (((-1) : Int32), τ) else (if (F_X9_isAlive τ a1) = 0 then (((-2) : Int32), τ) else (if (if ((τ.2.1 53) a1.toNatClampNeg) = ((τ.2.1 50) ((10 : Int32) + a2).toNatClampNeg) then (1 : Int32) else (0 : Int32)) = 0 then (if ((τ.2.1 53) a1.toNatClampNeg) = ((τ.2.1 50) ((18 : Int32) + a2).toNatClampNeg) then (if ((τ.2.1 53) ((4 : Int32) + a1).toNatClampNeg) < a3 then (((-2) : Int32), τ) else (if a3 ≤ ((τ.2.1 50) ((26 : Int32) + a2).toNatClampNeg) then (F_X9_goes_k113_24 τ a1 a2 a3 (F_X9_keeps τ)) else (((-2) : Int32), τ))) else (((-2) : Int32), τ)) else (if ((τ.2.1 53) ((4 : Int32) + a1).toNatClampNeg) < a3 then (((-2) : Int32), τ) else (if a3 ≤ ((τ.2.1 50) ((26 : Int32) + a2).toNatClampNeg) then (F_X9_goes_k113_12 τ a1 a2 a3 (F_X9_keeps τ)) else (((-2) : Int32), τ))))))))
abbrev I_X9_goes : List Nat := []
abbrev A_X9_goes : List Nat := [53]
theorem fr_F_X9_goes_k210_19 (τ : St) (a1 : Int32) (a2 : Int32) (a3 : Int32) (u11 : St) (u18 : St) (hfr : Fr I_X9_goes A_X9_goes false τ (u18)) : Fr I_X9_goes A_X9_goes false τ (F_X9_goes_k210_19  τ a1 a2 a3 u11 u18).2 := hfr
theorem fr_F_X9_goes_k113_12 (τ : St) (a1 : Int32) (a2 : Int32) (a3 : Int32) (u11 : St) (hfr : Fr I_X9_goes A_X9_goes false τ (u11)) : Fr I_X9_goes A_X9_goes false τ (F_X9_goes_k113_12  τ a1 a2 a3 u11).2 := (fr_ite2 (fr_ite2 (Fr.sa (by decide) hfr) (Fr.sa (by decide) hfr)) (fr_F_X9_goes_k210_19 τ a1 a2 a3 u11 (F_X9_dies (sa u11 53 (upd (upd (upd (u11.2.1 53) ((4 : Int32) + a1).toNatClampNeg (((u11.2.1 53) ((4 : Int32) + a1).toNatClampNeg) - a3)) a1.toNatClampNeg (if (if ((τ.2.1 53) a1.toNatClampNeg) = ((τ.2.1 50) ((10 : Int32) + a2).toNatClampNeg) then (1 : Int32) else (0 : Int32)) = 0 then ((u11.2.1 50) ((10 : Int32) + a2).toNatClampNeg) else ((u11.2.1 50) ((18 : Int32) + a2).toNatClampNeg))) ((8 : Int32) + a1).toNatClampNeg (((upd (upd (u11.2.1 53) ((4 : Int32) + a1).toNatClampNeg (((u11.2.1 53) ((4 : Int32) + a1).toNatClampNeg) - a3)) a1.toNatClampNeg (if (if ((τ.2.1 53) a1.toNatClampNeg) = ((τ.2.1 50) ((10 : Int32) + a2).toNatClampNeg) then (1 : Int32) else (0 : Int32)) = 0 then ((u11.2.1 50) ((10 : Int32) + a2).toNatClampNeg) else ((u11.2.1 50) ((18 : Int32) + a2).toNatClampNeg))) ((8 : Int32) + a1).toNatClampNeg) + (((u11.2.1 50) ((26 : Int32) + a2).toNatClampNeg) - a3)))) a1) (Fr.tr (Fr.sa (by decide) hfr) (Fr.mono (by decide) (by decide) (by decide) (fr_F_X9_dies (sa u11 53 (upd (upd (upd (u11.2.1 53) ((4 : Int32) + a1).toNatClampNeg (((u11.2.1 53) ((4 : Int32) + a1).toNatClampNeg) - a3)) a1.toNatClampNeg (if (if ((τ.2.1 53) a1.toNatClampNeg) = ((τ.2.1 50) ((10 : Int32) + a2).toNatClampNeg) then (1 : Int32) else (0 : Int32)) = 0 then ((u11.2.1 50) ((10 : Int32) + a2).toNatClampNeg) else ((u11.2.1 50) ((18 : Int32) + a2).toNatClampNeg))) ((8 : Int32) + a1).toNatClampNeg (((upd (upd (u11.2.1 53) ((4 : Int32) + a1).toNatClampNeg (((u11.2.1 53) ((4 : Int32) + a1).toNatClampNeg) - a3)) a1.toNatClampNeg (if (if ((τ.2.1 53) a1.toNatClampNeg) = ((τ.2.1 50) ((10 : Int32) + a2).toNatClampNeg) then (1 : Int32) else (0 : Int32)) = 0 then ((u11.2.1 50) ((10 : Int32) + a2).toNatClampNeg) else ((u11.2.1 50) ((18 : Int32) + a2).toNatClampNeg))) ((8 : Int32) + a1).toNatClampNeg) + (((u11.2.1 50) ((26 : Int32) + a2).toNatClampNeg) - a3)))) a1)))))
theorem fr_F_X9_goes_k210_31 (τ : St) (a1 : Int32) (a2 : Int32) (a3 : Int32) (u23 : St) (u30 : St) (hfr : Fr I_X9_goes A_X9_goes false τ (u30)) : Fr I_X9_goes A_X9_goes false τ (F_X9_goes_k210_31  τ a1 a2 a3 u23 u30).2 := hfr
theorem fr_F_X9_goes_k113_24 (τ : St) (a1 : Int32) (a2 : Int32) (a3 : Int32) (u23 : St) (hfr : Fr I_X9_goes A_X9_goes false τ (u23)) : Fr I_X9_goes A_X9_goes false τ (F_X9_goes_k113_24  τ a1 a2 a3 u23).2 := (fr_ite2 (fr_ite2 (Fr.sa (by decide) hfr) (Fr.sa (by decide) hfr)) (fr_F_X9_goes_k210_31 τ a1 a2 a3 u23 (F_X9_dies (sa u23 53 (upd (upd (upd (u23.2.1 53) ((4 : Int32) + a1).toNatClampNeg (((u23.2.1 53) ((4 : Int32) + a1).toNatClampNeg) - a3)) a1.toNatClampNeg (if (if ((τ.2.1 53) a1.toNatClampNeg) = ((τ.2.1 50) ((10 : Int32) + a2).toNatClampNeg) then (1 : Int32) else (0 : Int32)) = 0 then ((u23.2.1 50) ((10 : Int32) + a2).toNatClampNeg) else ((u23.2.1 50) ((18 : Int32) + a2).toNatClampNeg))) ((8 : Int32) + a1).toNatClampNeg (((upd (upd (u23.2.1 53) ((4 : Int32) + a1).toNatClampNeg (((u23.2.1 53) ((4 : Int32) + a1).toNatClampNeg) - a3)) a1.toNatClampNeg (if (if ((τ.2.1 53) a1.toNatClampNeg) = ((τ.2.1 50) ((10 : Int32) + a2).toNatClampNeg) then (1 : Int32) else (0 : Int32)) = 0 then ((u23.2.1 50) ((10 : Int32) + a2).toNatClampNeg) else ((u23.2.1 50) ((18 : Int32) + a2).toNatClampNeg))) ((8 : Int32) + a1).toNatClampNeg) + (((u23.2.1 50) ((26 : Int32) + a2).toNatClampNeg) - a3)))) a1) (Fr.tr (Fr.sa (by decide) hfr) (Fr.mono (by decide) (by decide) (by decide) (fr_F_X9_dies (sa u23 53 (upd (upd (upd (u23.2.1 53) ((4 : Int32) + a1).toNatClampNeg (((u23.2.1 53) ((4 : Int32) + a1).toNatClampNeg) - a3)) a1.toNatClampNeg (if (if ((τ.2.1 53) a1.toNatClampNeg) = ((τ.2.1 50) ((10 : Int32) + a2).toNatClampNeg) then (1 : Int32) else (0 : Int32)) = 0 then ((u23.2.1 50) ((10 : Int32) + a2).toNatClampNeg) else ((u23.2.1 50) ((18 : Int32) + a2).toNatClampNeg))) ((8 : Int32) + a1).toNatClampNeg (((upd (upd (u23.2.1 53) ((4 : Int32) + a1).toNatClampNeg (((u23.2.1 53) ((4 : Int32) + a1).toNatClampNeg) - a3)) a1.toNatClampNeg (if (if ((τ.2.1 53) a1.toNatClampNeg) = ((τ.2.1 50) ((10 : Int32) + a2).toNatClampNeg) then (1 : Int32) else (0 : Int32)) = 0 then ((u23.2.1 50) ((10 : Int32) + a2).toNatClampNeg) else ((u23.2.1 50) ((18 : Int32) + a2).toNatClampNeg))) ((8 : Int32) + a1).toNatClampNeg) + (((u23.2.1 50) ((26 : Int32) + a2).toNatClampNeg) - a3)))) a1)))))
theorem fr_F_X9_goes (τ : St) (a1 : Int32) (a2 : Int32) (a3 : Int32) : Fr I_X9_goes A_X9_goes false τ (F_X9_goes τ a1 a2 a3).2 := (fr_ite2 Fr.rf (fr_ite2 Fr.rf (fr_ite2 Fr.rf (fr_ite2 Fr.rf (fr_ite2 (fr_ite2 (fr_ite2 Fr.rf (fr_ite2 (fr_F_X9_goes_k113_24 τ a1 a2 a3 (F_X9_keeps τ) (Fr.tr Fr.rf (Fr.mono (by decide) (by decide) (by decide) (fr_F_X9_keeps τ)))) Fr.rf)) Fr.rf) (fr_ite2 Fr.rf (fr_ite2 (fr_F_X9_goes_k113_12 τ a1 a2 a3 (F_X9_keeps τ) (Fr.tr Fr.rf (Fr.mono (by decide) (by decide) (by decide) (fr_F_X9_keeps τ)))) Fr.rf)))))))
set_option maxHeartbeats 4000000 in
set_option maxRecDepth 20000 in
theorem c_X9_goes (l : Launch) (D : va_G) (cI cZ : ClassId) (z : Nat) (ad : Nat → Nat) (σ τ : St) (a1 a2 a3 : Int32) (hs_ : 0 ≤ ((τ.2.1 50) 1).toInt ∧ ((τ.2.1 50) 1).toInt ≤ 8) (hc_ : 0 ≤ ((τ.2.1 50) 2).toInt ∧ ((τ.2.1 50) 2).toInt ≤ 4) (hn_ : 0 ≤ ((τ.2.1 53) 74).toInt ∧ ((τ.2.1 53) 74).toInt ≤ 10) (hl_ : ∀ x : Int32, 0 ≤ x.toInt → x.toInt < 8 → 0 ≤ ((τ.2.1 50) ((42 : Int32) + x).toNatClampNeg).toInt ∧ ((τ.2.1 50) ((42 : Int32) + x).toNatClampNeg).toInt ≤ 5) : gM l yX9_goes cX9_goes 8 (some .int) 3 D cI cZ z (gws ad cI cZ σ τ) [.ref (ad 48), .int a1, .int a2, .int a3] (some (.int (F_X9_goes τ a1 a2 a3).1)) (gws ad cI cZ σ (F_X9_goes τ a1 a2 a3).2) := by
  refine g_met (own := RX9) (by decide) rfl (Nat.le_of_ble_eq_true rfl) (fun p e s m below meth c ls Q E hr hlk h hl hQ => ?_)
  have hx := E.1
  have hb := E.2.1
  have hF : (F_X9_goes τ a1 a2 a3) = (F_X9_goes τ a1 a2 a3) := rfl
  have hl : lv_has ls 8 [(0, .ref (ad 48)), (1, .int a1), (2, .int a2), (3, .int a3)] := hl
  refine lv_aload_n hx hb dX9_goes_0 rfl (lv_at hl 0 rfl) ?_
  refine lv_iload_n hx hb dX9_goes_1 rfl (lv_at hl 1 rfl) ?_
  refine g_callVi (rest := []) E h (c_X9_isCaravan l D cI cZ z ad σ τ a1) mw_907 cbX9_isCaravan 48 rfl rfl ⟨by decide, by decide⟩ rfl rfl hl.1 (Nat.le_of_ble_eq_true rfl) ⟨Nat.zero_le _, Nat.zero_le _⟩ dX9_goes_2 (fun H locs h => ?_)
  refine lv_if_eq (tgt := 26) hx hb dX9_goes_5 (by decide) (fun c1 => ?_) (fun c1 => ?_)
  · have ic1 : (F_X9_isCaravan τ a1).toInt = 0 := i_eq c1
    have hF := (if_pos c1).symm.trans hF
    refine lv_iconst (v := (-1)) hx hb dX9_goes_26 (by decide) ?_
    exact g_iret E hr hlk h hQ (fst_of hF) (snd_of hF (fun u => gws ad cI cZ σ u)) dX9_goes_27
  · have ic1 : (F_X9_isCaravan τ a1).toInt ≠ 0 := i_ne c1
    have jc1 := (fun c => fz9_isCaravan c (by omega)) c1
    have hF := (if_neg c1).symm.trans hF
    refine lv_aload_n hx hb dX9_goes_8 rfl (lv_at hl 0 rfl) ?_
    refine lv_iload_n hx hb dX9_goes_9 rfl (lv_at hl 2 rfl) ?_
    refine g_callVi (rest := []) E h (c_X9_isStage l D cI cZ z ad σ τ a2) mw_899 cbX9_isStage 48 rfl rfl ⟨by decide, by decide⟩ rfl rfl hl.1 (Nat.le_of_ble_eq_true rfl) ⟨Nat.zero_le _, Nat.zero_le _⟩ dX9_goes_10 (fun H locs h => ?_)
    refine lv_if_eq (tgt := 26) hx hb dX9_goes_13 (by decide) (fun c2 => ?_) (fun c2 => ?_)
    · have ic2 : (F_X9_isStage τ a2).toInt = 0 := i_eq c2
      have hF := (if_pos c2).symm.trans hF
      refine lv_iconst (v := (-1)) hx hb dX9_goes_26 (by decide) ?_
      exact g_iret E hr hlk h hQ (fst_of hF) (snd_of hF (fun u => gws ad cI cZ σ u)) dX9_goes_27
    · have ic2 : (F_X9_isStage τ a2).toInt ≠ 0 := i_ne c2
      have jc2 := (fun c => fz9_isStage c (by omega)) c2
      have hF := (if_neg c2).symm.trans hF
      refine lv_iload_n hx hb dX9_goes_16 rfl (lv_at hl 3 rfl) ?_
      refine lv_iconst (v := 0) hx hb dX9_goes_17 (by decide) ?_
      refine lv_bipush (v := 9) hx hb dX9_goes_18 (by decide) ?_
      refine g_callSi (rest := []) E h (c_X9_in l D cI cZ z (gws ad cI cZ σ τ) a3 (0 : Int32) (9 : Int32)) mw_789 cbX9_in ⟨by decide, by decide⟩ rfl rfl hl.1 (Nat.le_of_ble_eq_true rfl) ⟨Nat.zero_le _, Nat.zero_le _⟩ dX9_goes_20 (fun H locs h => ?_)
      refine lv_if_ne (tgt := 28) hx hb dX9_goes_23 (by decide) (fun c3 => ?_) (fun c3 => ?_)
      · have ic3 : (F_X9_in a3 (0 : Int32) (9 : Int32)).toInt ≠ 0 := i_ne c3
        have jc3 : 0 ≤ a3.toInt ∧ a3.toInt ≤ 9 := fz_in c3
        have hF := (if_neg c3).symm.trans hF
        refine lv_aload_n hx hb dX9_goes_28 rfl (lv_at hl 0 rfl) ?_
        refine g_get (v := .ref (ad 53)) E h 48 rfl rfl layX9 6 (by decide) rfl mw_825 rfl dX9_goes_29 ?_
        refine lv_iload_n hx hb dX9_goes_32 rfl (lv_at hl 1 rfl) ?_
        refine g_iald (f := (τ.2.1 53)) E h 53 rfl (ix_of (oI_at a1) (by omega) (by decide)) dX9_goes_33 ?_
        refine lv_aload_n hx hb dX9_goes_34 rfl (lv_at hl 0 rfl) ?_
        refine g_get (v := .ref (ad 50)) E h 48 rfl rfl layX9 3 (by decide) rfl mw_822 rfl dX9_goes_35 ?_
        refine lv_bipush (v := 10) hx hb dX9_goes_38 (by decide) ?_
        refine lv_iload_n hx hb dX9_goes_40 rfl (lv_at hl 2 rfl) ?_
        refine lv_iadd hx hb dX9_goes_41 ?_
        refine g_iald (f := (τ.2.1 50)) E h 50 rfl (ix_of (oI_add (oI_lit (x := 10) (a := 10) rfl) (oI_at a2)) (by omega) (by decide)) dX9_goes_42 ?_
        refine g_dia (D := D) (z := z) (ws := gws ad cI cZ σ τ) (rest := []) 51 (if ((τ.2.1 53) a1.toNatClampNeg) = ((τ.2.1 50) ((10 : Int32) + a2).toNatClampNeg) then (1 : Int32) else (0 : Int32)) (fun H locs h => ?_) (fun K5 => ?_)
        · refine lv_istore (lv' := [(4, .int (if ((τ.2.1 53) a1.toNatClampNeg) = ((τ.2.1 50) ((10 : Int32) + a2).toNatClampNeg) then (1 : Int32) else (0 : Int32))), (0, .ref (ad 48)), (1, .int a1), (2, .int a2), (3, .int a3)]) hx hb dX9_goes_51 hl (by decide) rfl (fun ls hl => ?_)
          refine lv_aload_n hx hb dX9_goes_53 rfl (lv_at hl 1 rfl) ?_
          refine lv_iload_n hx hb dX9_goes_54 rfl (lv_at hl 2 rfl) ?_
          refine g_callVi (rest := []) E h (c_X9_isAlive l D cI cZ z ad σ τ a1) mw_911 cbX9_isAlive 48 rfl rfl ⟨by decide, by decide⟩ rfl rfl hl.1 (Nat.le_of_ble_eq_true rfl) ⟨Nat.zero_le _, Nat.zero_le _⟩ dX9_goes_55 (fun H locs h => ?_)
          refine lv_if_eq (tgt := 109) hx hb dX9_goes_58 (by decide) (fun c7 => ?_) (fun c7 => ?_)
          · have ic7 : (F_X9_isAlive τ a1).toInt = 0 := i_eq c7
            have hF := (if_pos c7).symm.trans hF
            refine lv_bipush (v := (-2)) hx hb dX9_goes_109 (by decide) ?_
            exact g_iret E hr hlk h hQ (fst_of hF) (snd_of hF (fun u => gws ad cI cZ σ u)) dX9_goes_111
          · have ic7 : (F_X9_isAlive τ a1).toInt ≠ 0 := i_ne c7
            have hF := (if_neg c7).symm.trans hF
            refine lv_iload hx hb dX9_goes_61 (lv_at hl 0 rfl) ?_
            refine lv_if_ne (tgt := 84) hx hb dX9_goes_63 (by decide) (fun c8 => ?_) (fun c8 => ?_)
            · have ic8 : (if ((τ.2.1 53) a1.toNatClampNeg) = ((τ.2.1 50) ((10 : Int32) + a2).toNatClampNeg) then (1 : Int32) else (0 : Int32)).toInt ≠ 0 := i_ne c8
              have hF := (if_neg c8).symm.trans hF
              refine lv_iload_n hx hb dX9_goes_84 rfl (lv_at hl 4 rfl) ?_
              refine lv_aload_n hx hb dX9_goes_85 rfl (lv_at hl 1 rfl) ?_
              refine g_get (v := .ref (ad 53)) E h 48 rfl rfl layX9 6 (by decide) rfl mw_825 rfl dX9_goes_86 ?_
              refine lv_iconst (v := 4) hx hb dX9_goes_89 (by decide) ?_
              refine lv_iload_n hx hb dX9_goes_90 rfl (lv_at hl 2 rfl) ?_
              refine lv_iadd hx hb dX9_goes_91 ?_
              refine g_iald (f := (τ.2.1 53)) E h 53 rfl (ix_of (oI_add (oI_lit (x := 4) (a := 4) rfl) (oI_at a1)) (by omega) (by decide)) dX9_goes_92 ?_
              refine lv_icmp_gt (tgt := 109) hx hb dX9_goes_93 (by decide) (fun c9 => ?_) (fun c9 => ?_)
              · have ic9 : ((τ.2.1 53) ((4 : Int32) + a1).toNatClampNeg).toInt < a3.toInt := i_lt c9
                have hF := (if_pos c9).symm.trans hF
                refine lv_bipush (v := (-2)) hx hb dX9_goes_109 (by decide) ?_
                exact g_iret E hr hlk h hQ (fst_of hF) (snd_of hF (fun u => gws ad cI cZ σ u)) dX9_goes_111
              · have ic9 : a3.toInt ≤ ((τ.2.1 53) ((4 : Int32) + a1).toNatClampNeg).toInt := i_nlt c9
                have hF := (if_neg c9).symm.trans hF
                refine lv_iload_n hx hb dX9_goes_96 rfl (lv_at hl 4 rfl) ?_
                refine lv_aload_n hx hb dX9_goes_97 rfl (lv_at hl 1 rfl) ?_
                refine g_get (v := .ref (ad 50)) E h 48 rfl rfl layX9 3 (by decide) rfl mw_822 rfl dX9_goes_98 ?_
                refine lv_bipush (v := 26) hx hb dX9_goes_101 (by decide) ?_
                refine lv_iload_n hx hb dX9_goes_103 rfl (lv_at hl 3 rfl) ?_
                refine lv_iadd hx hb dX9_goes_104 ?_
                refine g_iald (f := (τ.2.1 50)) E h 50 rfl (ix_of (oI_add (oI_lit (x := 26) (a := 26) rfl) (oI_at a2)) (by omega) (by decide)) dX9_goes_105 ?_
                refine lv_icmp_le (tgt := 112) hx hb dX9_goes_106 (by decide) (fun c10 => ?_) (fun c10 => ?_)
                · have ic10 : a3.toInt ≤ ((τ.2.1 50) ((26 : Int32) + a2).toNatClampNeg).toInt := i_le c10
                  have hF := (if_pos c10).symm.trans hF
                  refine lv_aload_n hx hb dX9_goes_112 rfl (lv_at hl 1 rfl) ?_
                  refine g_callVUv (F_X9_keeps τ) (fun u => gws ad cI cZ σ u) (rest := []) E h (c_X9_keeps l D cI cZ z ad σ τ (show 0 ≤ ((τ.2.1 53) 74).toInt ∧ ((τ.2.1 53) 74).toInt ≤ 10 from by omega)) mw_955 cbX9_keeps 48 rfl rfl ⟨by decide, by decide⟩ rfl rfl hl.1 (Nat.le_of_ble_eq_true rfl) ⟨Nat.zero_le _, Nat.zero_le _⟩ dX9_goes_113 (fun u11 huu11 H locs h => ?_)
                  have hF : F_X9_goes_k113_12 τ a1 a2 a3 u11 = (F_X9_goes τ a1 a2 a3) := by rw [← huu11]; exact hF
                  have kA50 : u11.2.1 50 = τ.2.1 50 := by rw [← huu11]; exact (fr_F_X9_keeps _).2.1 50 (by decide)
                  have hl1 : 0 ≤ ((u11.2.1 50) ((42 : Int32) + a2).toNatClampNeg).toInt ∧ ((u11.2.1 50) ((42 : Int32) + a2).toNatClampNeg).toInt ≤ 5 := by rw [kA50]; exact hl_ a2 (by omega) (by omega)
                  refine lv_aload_n hx hb dX9_goes_116 rfl (lv_at hl 1 rfl) ?_
                  refine g_get (v := .ref (ad 50)) E h 48 rfl rfl layX9 3 (by decide) rfl mw_822 rfl dX9_goes_117 ?_
                  refine lv_bipush (v := 26) hx hb dX9_goes_120 (by decide) ?_
                  refine lv_iload_n hx hb dX9_goes_122 rfl (lv_at hl 3 rfl) ?_
                  refine lv_iadd hx hb dX9_goes_123 ?_
                  refine g_iald (f := (u11.2.1 50)) E h 50 rfl (ix_of (oI_add (oI_lit (x := 26) (a := 26) rfl) (oI_at a2)) (by omega) (by decide)) dX9_goes_124 ?_
                  refine lv_iload_n hx hb dX9_goes_125 rfl (lv_at hl 4 rfl) ?_
                  refine lv_isub hx hb dX9_goes_126 ?_
                  refine lv_istore (lv' := [(5, .int (((u11.2.1 50) ((26 : Int32) + a2).toNatClampNeg) - a3)), (4, .int (if ((τ.2.1 53) a1.toNatClampNeg) = ((τ.2.1 50) ((10 : Int32) + a2).toNatClampNeg) then (1 : Int32) else (0 : Int32))), (0, .ref (ad 48)), (1, .int a1), (2, .int a2), (3, .int a3)]) hx hb dX9_goes_127 hl (by decide) rfl (fun ls hl => ?_)
                  refine lv_aload_n hx hb dX9_goes_129 rfl (lv_at hl 2 rfl) ?_
                  refine g_get (v := .ref (ad 53)) E h 48 rfl rfl layX9 6 (by decide) rfl mw_825 rfl dX9_goes_130 ?_
                  refine lv_iconst (v := 4) hx hb dX9_goes_133 (by decide) ?_
                  refine lv_iload_n hx hb dX9_goes_134 rfl (lv_at hl 3 rfl) ?_
                  refine lv_iadd hx hb dX9_goes_135 ?_
                  refine lv_dup2_11 hx hb dX9_goes_136 rfl rfl ?_
                  refine g_iald (f := (u11.2.1 53)) E h 53 rfl (ix_of (oI_add (oI_lit (x := 4) (a := 4) rfl) (oI_at a1)) (by omega) (by decide)) dX9_goes_137 ?_
                  refine lv_iload_n hx hb dX9_goes_138 rfl (lv_at hl 5 rfl) ?_
                  refine lv_isub hx hb dX9_goes_139 ?_
                  refine g_iast (f := (u11.2.1 53)) (ws' := gws ad cI cZ σ (sa u11 53 (upd (u11.2.1 53) ((4 : Int32) + a1).toNatClampNeg (((u11.2.1 53) ((4 : Int32) + a1).toNatClampNeg) - a3)))) E h 53 rfl (ix_of (oI_add (oI_lit (x := 4) (a := 4) rfl) (oI_at a1)) (by omega) (by decide)) (ga_53 ad cI cZ σ u11 (upd (u11.2.1 53) ((4 : Int32) + a1).toNatClampNeg (((u11.2.1 53) ((4 : Int32) + a1).toNatClampNeg) - a3))) dX9_goes_140 (fun H locs h => ?_)
                  refine lv_aload_n hx hb dX9_goes_141 rfl (lv_at hl 2 rfl) ?_
                  refine g_get (v := .ref (ad 53)) E h 48 rfl rfl layX9 6 (by decide) rfl mw_825 rfl dX9_goes_142 ?_
                  refine lv_iload_n hx hb dX9_goes_145 rfl (lv_at hl 3 rfl) ?_
                  refine lv_iload hx hb dX9_goes_146 (lv_at hl 1 rfl) ?_
                  refine g_dia (D := D) (z := z) (ws := gws ad cI cZ σ (sa u11 53 (upd (u11.2.1 53) ((4 : Int32) + a1).toNatClampNeg (((u11.2.1 53) ((4 : Int32) + a1).toNatClampNeg) - a3)))) (rest := [.int a1, .ref (ad 53)]) 172 (if (if ((τ.2.1 53) a1.toNatClampNeg) = ((τ.2.1 50) ((10 : Int32) + a2).toNatClampNeg) then (1 : Int32) else (0 : Int32)) = 0 then ((u11.2.1 50) ((10 : Int32) + a2).toNatClampNeg) else ((u11.2.1 50) ((18 : Int32) + a2).toNatClampNeg)) (fun H locs h => ?_) (fun K14 => ?_)
                  · refine g_iast (f := (upd (u11.2.1 53) ((4 : Int32) + a1).toNatClampNeg (((u11.2.1 53) ((4 : Int32) + a1).toNatClampNeg) - a3))) (ws' := gws ad cI cZ σ (sa u11 53 (upd (upd (u11.2.1 53) ((4 : Int32) + a1).toNatClampNeg (((u11.2.1 53) ((4 : Int32) + a1).toNatClampNeg) - a3)) a1.toNatClampNeg (if (if ((τ.2.1 53) a1.toNatClampNeg) = ((τ.2.1 50) ((10 : Int32) + a2).toNatClampNeg) then (1 : Int32) else (0 : Int32)) = 0 then ((u11.2.1 50) ((10 : Int32) + a2).toNatClampNeg) else ((u11.2.1 50) ((18 : Int32) + a2).toNatClampNeg))))) E h 53 rfl (ix_of (oI_at a1) (by omega) (by decide)) ((ga_53 ad cI cZ σ (sa u11 53 (upd (u11.2.1 53) ((4 : Int32) + a1).toNatClampNeg (((u11.2.1 53) ((4 : Int32) + a1).toNatClampNeg) - a3))) (upd (upd (u11.2.1 53) ((4 : Int32) + a1).toNatClampNeg (((u11.2.1 53) ((4 : Int32) + a1).toNatClampNeg) - a3)) a1.toNatClampNeg (if (if ((τ.2.1 53) a1.toNatClampNeg) = ((τ.2.1 50) ((10 : Int32) + a2).toNatClampNeg) then (1 : Int32) else (0 : Int32)) = 0 then ((u11.2.1 50) ((10 : Int32) + a2).toNatClampNeg) else ((u11.2.1 50) ((18 : Int32) + a2).toNatClampNeg)))).trans (congrArg (fun u => gws ad cI cZ σ u) (sa_sa _ _ _ _))) dX9_goes_172 (fun H locs h => ?_)
                    refine lv_aload_n hx hb dX9_goes_173 rfl (lv_at hl 2 rfl) ?_
                    refine g_get (v := .ref (ad 53)) E h 48 rfl rfl layX9 6 (by decide) rfl mw_825 rfl dX9_goes_174 ?_
                    refine lv_bipush (v := 8) hx hb dX9_goes_177 (by decide) ?_
                    refine lv_iload_n hx hb dX9_goes_179 rfl (lv_at hl 3 rfl) ?_
                    refine lv_iadd hx hb dX9_goes_180 ?_
                    refine lv_dup2_11 hx hb dX9_goes_181 rfl rfl ?_
                    refine g_iald (f := (upd (upd (u11.2.1 53) ((4 : Int32) + a1).toNatClampNeg (((u11.2.1 53) ((4 : Int32) + a1).toNatClampNeg) - a3)) a1.toNatClampNeg (if (if ((τ.2.1 53) a1.toNatClampNeg) = ((τ.2.1 50) ((10 : Int32) + a2).toNatClampNeg) then (1 : Int32) else (0 : Int32)) = 0 then ((u11.2.1 50) ((10 : Int32) + a2).toNatClampNeg) else ((u11.2.1 50) ((18 : Int32) + a2).toNatClampNeg)))) E h 53 rfl (ix_of (oI_add (oI_lit (x := 8) (a := 8) rfl) (oI_at a1)) (by omega) (by decide)) dX9_goes_182 ?_
                    refine lv_iload hx hb dX9_goes_183 (lv_at hl 0 rfl) ?_
                    refine lv_iadd hx hb dX9_goes_185 ?_
                    refine g_iast (f := (upd (upd (u11.2.1 53) ((4 : Int32) + a1).toNatClampNeg (((u11.2.1 53) ((4 : Int32) + a1).toNatClampNeg) - a3)) a1.toNatClampNeg (if (if ((τ.2.1 53) a1.toNatClampNeg) = ((τ.2.1 50) ((10 : Int32) + a2).toNatClampNeg) then (1 : Int32) else (0 : Int32)) = 0 then ((u11.2.1 50) ((10 : Int32) + a2).toNatClampNeg) else ((u11.2.1 50) ((18 : Int32) + a2).toNatClampNeg)))) (ws' := gws ad cI cZ σ (sa u11 53 (upd (upd (upd (u11.2.1 53) ((4 : Int32) + a1).toNatClampNeg (((u11.2.1 53) ((4 : Int32) + a1).toNatClampNeg) - a3)) a1.toNatClampNeg (if (if ((τ.2.1 53) a1.toNatClampNeg) = ((τ.2.1 50) ((10 : Int32) + a2).toNatClampNeg) then (1 : Int32) else (0 : Int32)) = 0 then ((u11.2.1 50) ((10 : Int32) + a2).toNatClampNeg) else ((u11.2.1 50) ((18 : Int32) + a2).toNatClampNeg))) ((8 : Int32) + a1).toNatClampNeg (((upd (upd (u11.2.1 53) ((4 : Int32) + a1).toNatClampNeg (((u11.2.1 53) ((4 : Int32) + a1).toNatClampNeg) - a3)) a1.toNatClampNeg (if (if ((τ.2.1 53) a1.toNatClampNeg) = ((τ.2.1 50) ((10 : Int32) + a2).toNatClampNeg) then (1 : Int32) else (0 : Int32)) = 0 then ((u11.2.1 50) ((10 : Int32) + a2).toNatClampNeg) else ((u11.2.1 50) ((18 : Int32) + a2).toNatClampNeg))) ((8 : Int32) + a1).toNatClampNeg) + (((u11.2.1 50) ((26 : Int32) + a2).toNatClampNeg) - a3))))) E h 53 rfl (ix_of (oI_add (oI_lit (x := 8) (a := 8) rfl) (oI_at a1)) (by omega) (by decide)) ((ga_53 ad cI cZ σ (sa u11 53 (upd (upd (u11.2.1 53) ((4 : Int32) + a1).toNatClampNeg (((u11.2.1 53) ((4 : Int32) + a1).toNatClampNeg) - a3)) a1.toNatClampNeg (if (if ((τ.2.1 53) a1.toNatClampNeg) = ((τ.2.1 50) ((10 : Int32) + a2).toNatClampNeg) then (1 : Int32) else (0 : Int32)) = 0 then ((u11.2.1 50) ((10 : Int32) + a2).toNatClampNeg) else ((u11.2.1 50) ((18 : Int32) + a2).toNatClampNeg)))) (upd (upd (upd (u11.2.1 53) ((4 : Int32) + a1).toNatClampNeg (((u11.2.1 53) ((4 : Int32) + a1).toNatClampNeg) - a3)) a1.toNatClampNeg (if (if ((τ.2.1 53) a1.toNatClampNeg) = ((τ.2.1 50) ((10 : Int32) + a2).toNatClampNeg) then (1 : Int32) else (0 : Int32)) = 0 then ((u11.2.1 50) ((10 : Int32) + a2).toNatClampNeg) else ((u11.2.1 50) ((18 : Int32) + a2).toNatClampNeg))) ((8 : Int32) + a1).toNatClampNeg (((upd (upd (u11.2.1 53) ((4 : Int32) + a1).toNatClampNeg (((u11.2.1 53) ((4 : Int32) + a1).toNatClampNeg) - a3)) a1.toNatClampNeg (if (if ((τ.2.1 53) a1.toNatClampNeg) = ((τ.2.1 50) ((10 : Int32) + a2).toNatClampNeg) then (1 : Int32) else (0 : Int32)) = 0 then ((u11.2.1 50) ((10 : Int32) + a2).toNatClampNeg) else ((u11.2.1 50) ((18 : Int32) + a2).toNatClampNeg))) ((8 : Int32) + a1).toNatClampNeg) + (((u11.2.1 50) ((26 : Int32) + a2).toNatClampNeg) - a3)))).trans (congrArg (fun u => gws ad cI cZ σ u) (sa_sa _ _ _ _))) dX9_goes_186 (fun H locs h => ?_)
                    refine lv_aload_n hx hb dX9_goes_187 rfl (lv_at hl 2 rfl) ?_
                    refine g_get (v := .ref (ad 53)) E h 48 rfl rfl layX9 6 (by decide) rfl mw_825 rfl dX9_goes_188 ?_
                    refine lv_bipush (v := 8) hx hb dX9_goes_191 (by decide) ?_
                    refine lv_iload_n hx hb dX9_goes_193 rfl (lv_at hl 3 rfl) ?_
                    refine lv_iadd hx hb dX9_goes_194 ?_
                    refine g_iald (f := (upd (upd (upd (u11.2.1 53) ((4 : Int32) + a1).toNatClampNeg (((u11.2.1 53) ((4 : Int32) + a1).toNatClampNeg) - a3)) a1.toNatClampNeg (if (if ((τ.2.1 53) a1.toNatClampNeg) = ((τ.2.1 50) ((10 : Int32) + a2).toNatClampNeg) then (1 : Int32) else (0 : Int32)) = 0 then ((u11.2.1 50) ((10 : Int32) + a2).toNatClampNeg) else ((u11.2.1 50) ((18 : Int32) + a2).toNatClampNeg))) ((8 : Int32) + a1).toNatClampNeg (((upd (upd (u11.2.1 53) ((4 : Int32) + a1).toNatClampNeg (((u11.2.1 53) ((4 : Int32) + a1).toNatClampNeg) - a3)) a1.toNatClampNeg (if (if ((τ.2.1 53) a1.toNatClampNeg) = ((τ.2.1 50) ((10 : Int32) + a2).toNatClampNeg) then (1 : Int32) else (0 : Int32)) = 0 then ((u11.2.1 50) ((10 : Int32) + a2).toNatClampNeg) else ((u11.2.1 50) ((18 : Int32) + a2).toNatClampNeg))) ((8 : Int32) + a1).toNatClampNeg) + (((u11.2.1 50) ((26 : Int32) + a2).toNatClampNeg) - a3)))) E h 53 rfl (ix_of (oI_add (oI_lit (x := 8) (a := 8) rfl) (oI_at a1)) (by omega) (by decide)) dX9_goes_195 ?_
                    refine lv_aload_n hx hb dX9_goes_196 rfl (lv_at hl 2 rfl) ?_
                    refine g_get (v := .ref (ad 50)) E h 48 rfl rfl layX9 3 (by decide) rfl mw_822 rfl dX9_goes_197 ?_
                    refine lv_bipush (v := 50) hx hb dX9_goes_200 (by decide) ?_
                    refine lv_iload_n hx hb dX9_goes_202 rfl (lv_at hl 3 rfl) ?_
                    refine lv_iadd hx hb dX9_goes_203 ?_
                    refine g_iald (f := (u11.2.1 50)) E h 50 rfl (ix_of (oI_add (oI_lit (x := 50) (a := 50) rfl) (oI_at a1)) (by omega) (by decide)) dX9_goes_204 ?_
                    refine lv_icmp_le (tgt := 215) hx hb dX9_goes_205 (by decide) (fun c16 => ?_) (fun c16 => ?_)
                    · have ic16 : ((upd (upd (upd (u11.2.1 53) ((4 : Int32) + a1).toNatClampNeg (((u11.2.1 53) ((4 : Int32) + a1).toNatClampNeg) - a3)) a1.toNatClampNeg (if (if ((τ.2.1 53) a1.toNatClampNeg) = ((τ.2.1 50) ((10 : Int32) + a2).toNatClampNeg) then (1 : Int32) else (0 : Int32)) = 0 then ((u11.2.1 50) ((10 : Int32) + a2).toNatClampNeg) else ((u11.2.1 50) ((18 : Int32) + a2).toNatClampNeg))) ((8 : Int32) + a1).toNatClampNeg (((upd (upd (u11.2.1 53) ((4 : Int32) + a1).toNatClampNeg (((u11.2.1 53) ((4 : Int32) + a1).toNatClampNeg) - a3)) a1.toNatClampNeg (if (if ((τ.2.1 53) a1.toNatClampNeg) = ((τ.2.1 50) ((10 : Int32) + a2).toNatClampNeg) then (1 : Int32) else (0 : Int32)) = 0 then ((u11.2.1 50) ((10 : Int32) + a2).toNatClampNeg) else ((u11.2.1 50) ((18 : Int32) + a2).toNatClampNeg))) ((8 : Int32) + a1).toNatClampNeg) + (((u11.2.1 50) ((26 : Int32) + a2).toNatClampNeg) - a3))) ((8 : Int32) + a1).toNatClampNeg).toInt ≤ ((u11.2.1 50) ((50 : Int32) + a1).toNatClampNeg).toInt := i_le c16
                      have hF := (if_pos c16).symm.trans hF
                      refine lv_bipush (v := 14) hx hb dX9_goes_215 (by decide) ?_
                      refine lv_bipush (v := 6) hx hb dX9_goes_217 (by decide) ?_
                      refine lv_iload_n hx hb dX9_goes_219 rfl (lv_at hl 3 rfl) ?_
                      refine lv_imul hx hb dX9_goes_220 ?_
                      refine lv_iadd hx hb dX9_goes_221 ?_
                      refine lv_aload_n hx hb dX9_goes_222 rfl (lv_at hl 2 rfl) ?_
                      refine g_get (v := .ref (ad 50)) E h 48 rfl rfl layX9 3 (by decide) rfl mw_822 rfl dX9_goes_223 ?_
                      refine lv_bipush (v := 42) hx hb dX9_goes_226 (by decide) ?_
                      refine lv_iload_n hx hb dX9_goes_228 rfl (lv_at hl 4 rfl) ?_
                      refine lv_iadd hx hb dX9_goes_229 ?_
                      refine g_iald (f := (u11.2.1 50)) E h 50 rfl (ix_of (oI_add (oI_lit (x := 42) (a := 42) rfl) (oI_at a2)) (by omega) (by decide)) dX9_goes_230 ?_
                      refine lv_iadd hx hb dX9_goes_231 ?_
                      refine lv_istore (lv' := [(6, .int (((14 : Int32) + ((6 : Int32) * a1)) + ((u11.2.1 50) ((42 : Int32) + a2).toNatClampNeg))), (5, .int (((u11.2.1 50) ((26 : Int32) + a2).toNatClampNeg) - a3)), (4, .int (if ((τ.2.1 53) a1.toNatClampNeg) = ((τ.2.1 50) ((10 : Int32) + a2).toNatClampNeg) then (1 : Int32) else (0 : Int32))), (0, .ref (ad 48)), (1, .int a1), (2, .int a2), (3, .int a3)]) hx hb dX9_goes_232 hl (by decide) rfl (fun ls hl => ?_)
                      refine lv_aload_n hx hb dX9_goes_234 rfl (lv_at hl 3 rfl) ?_
                      refine g_get (v := .ref (ad 53)) E h 48 rfl rfl layX9 6 (by decide) rfl mw_825 rfl dX9_goes_235 ?_
                      refine lv_iload hx hb dX9_goes_238 (lv_at hl 0 rfl) ?_
                      refine g_iald (f := (upd (upd (upd (u11.2.1 53) ((4 : Int32) + a1).toNatClampNeg (((u11.2.1 53) ((4 : Int32) + a1).toNatClampNeg) - a3)) a1.toNatClampNeg (if (if ((τ.2.1 53) a1.toNatClampNeg) = ((τ.2.1 50) ((10 : Int32) + a2).toNatClampNeg) then (1 : Int32) else (0 : Int32)) = 0 then ((u11.2.1 50) ((10 : Int32) + a2).toNatClampNeg) else ((u11.2.1 50) ((18 : Int32) + a2).toNatClampNeg))) ((8 : Int32) + a1).toNatClampNeg (((upd (upd (u11.2.1 53) ((4 : Int32) + a1).toNatClampNeg (((u11.2.1 53) ((4 : Int32) + a1).toNatClampNeg) - a3)) a1.toNatClampNeg (if (if ((τ.2.1 53) a1.toNatClampNeg) = ((τ.2.1 50) ((10 : Int32) + a2).toNatClampNeg) then (1 : Int32) else (0 : Int32)) = 0 then ((u11.2.1 50) ((10 : Int32) + a2).toNatClampNeg) else ((u11.2.1 50) ((18 : Int32) + a2).toNatClampNeg))) ((8 : Int32) + a1).toNatClampNeg) + (((u11.2.1 50) ((26 : Int32) + a2).toNatClampNeg) - a3)))) E h 53 rfl (ix_of (oI_add (oI_add (oI_lit (x := 14) (a := 14) rfl) (oI_mul (oI_lit (x := 6) (a := 6) rfl) (oI_at a1))) (oI_at ((u11.2.1 50) ((42 : Int32) + a2).toNatClampNeg))) (by omega) (by decide)) dX9_goes_240 ?_
                      refine lv_aload_n hx hb dX9_goes_241 rfl (lv_at hl 3 rfl) ?_
                      refine lv_iload_n hx hb dX9_goes_242 rfl (lv_at hl 5 rfl) ?_
                      refine lv_iload hx hb dX9_goes_243 (lv_at hl 1 rfl) ?_
                      refine g_callVi (rest := [.int ((upd (upd (upd (u11.2.1 53) ((4 : Int32) + a1).toNatClampNeg (((u11.2.1 53) ((4 : Int32) + a1).toNatClampNeg) - a3)) a1.toNatClampNeg (if (if ((τ.2.1 53) a1.toNatClampNeg) = ((τ.2.1 50) ((10 : Int32) + a2).toNatClampNeg) then (1 : Int32) else (0 : Int32)) = 0 then ((u11.2.1 50) ((10 : Int32) + a2).toNatClampNeg) else ((u11.2.1 50) ((18 : Int32) + a2).toNatClampNeg))) ((8 : Int32) + a1).toNatClampNeg (((upd (upd (u11.2.1 53) ((4 : Int32) + a1).toNatClampNeg (((u11.2.1 53) ((4 : Int32) + a1).toNatClampNeg) - a3)) a1.toNatClampNeg (if (if ((τ.2.1 53) a1.toNatClampNeg) = ((τ.2.1 50) ((10 : Int32) + a2).toNatClampNeg) then (1 : Int32) else (0 : Int32)) = 0 then ((u11.2.1 50) ((10 : Int32) + a2).toNatClampNeg) else ((u11.2.1 50) ((18 : Int32) + a2).toNatClampNeg))) ((8 : Int32) + a1).toNatClampNeg) + (((u11.2.1 50) ((26 : Int32) + a2).toNatClampNeg) - a3))) (((14 : Int32) + ((6 : Int32) * a1)) + ((u11.2.1 50) ((42 : Int32) + a2).toNatClampNeg)).toNatClampNeg)]) E h (c_X9_paid l D cI cZ z ad σ (sa u11 53 (upd (upd (upd (u11.2.1 53) ((4 : Int32) + a1).toNatClampNeg (((u11.2.1 53) ((4 : Int32) + a1).toNatClampNeg) - a3)) a1.toNatClampNeg (if (if ((τ.2.1 53) a1.toNatClampNeg) = ((τ.2.1 50) ((10 : Int32) + a2).toNatClampNeg) then (1 : Int32) else (0 : Int32)) = 0 then ((u11.2.1 50) ((10 : Int32) + a2).toNatClampNeg) else ((u11.2.1 50) ((18 : Int32) + a2).toNatClampNeg))) ((8 : Int32) + a1).toNatClampNeg (((upd (upd (u11.2.1 53) ((4 : Int32) + a1).toNatClampNeg (((u11.2.1 53) ((4 : Int32) + a1).toNatClampNeg) - a3)) a1.toNatClampNeg (if (if ((τ.2.1 53) a1.toNatClampNeg) = ((τ.2.1 50) ((10 : Int32) + a2).toNatClampNeg) then (1 : Int32) else (0 : Int32)) = 0 then ((u11.2.1 50) ((10 : Int32) + a2).toNatClampNeg) else ((u11.2.1 50) ((18 : Int32) + a2).toNatClampNeg))) ((8 : Int32) + a1).toNatClampNeg) + (((u11.2.1 50) ((26 : Int32) + a2).toNatClampNeg) - a3)))) a2 (((u11.2.1 50) ((26 : Int32) + a2).toNatClampNeg) - a3) (show 0 ≤ a2.toInt ∧ a2.toInt < 8 from by omega) (show ∀ x : Int32, 0 ≤ x.toInt → x.toInt < 8 → 0 ≤ ((u11.2.1 50) ((42 : Int32) + x).toNatClampNeg).toInt ∧ ((u11.2.1 50) ((42 : Int32) + x).toNatClampNeg).toInt ≤ 5 from by rw [kA50]; exact hl_)) mw_963 cbX9_paid 48 rfl rfl ⟨by decide, by decide⟩ rfl rfl hl.1 (Nat.le_of_ble_eq_true rfl) ⟨Nat.zero_le _, Nat.zero_le _⟩ dX9_goes_245 (fun H locs h => ?_)
                      refine lv_isub hx hb dX9_goes_248 ?_
                      refine lv_istore (lv' := [(7, .int (((upd (upd (upd (u11.2.1 53) ((4 : Int32) + a1).toNatClampNeg (((u11.2.1 53) ((4 : Int32) + a1).toNatClampNeg) - a3)) a1.toNatClampNeg (if (if ((τ.2.1 53) a1.toNatClampNeg) = ((τ.2.1 50) ((10 : Int32) + a2).toNatClampNeg) then (1 : Int32) else (0 : Int32)) = 0 then ((u11.2.1 50) ((10 : Int32) + a2).toNatClampNeg) else ((u11.2.1 50) ((18 : Int32) + a2).toNatClampNeg))) ((8 : Int32) + a1).toNatClampNeg (((upd (upd (u11.2.1 53) ((4 : Int32) + a1).toNatClampNeg (((u11.2.1 53) ((4 : Int32) + a1).toNatClampNeg) - a3)) a1.toNatClampNeg (if (if ((τ.2.1 53) a1.toNatClampNeg) = ((τ.2.1 50) ((10 : Int32) + a2).toNatClampNeg) then (1 : Int32) else (0 : Int32)) = 0 then ((u11.2.1 50) ((10 : Int32) + a2).toNatClampNeg) else ((u11.2.1 50) ((18 : Int32) + a2).toNatClampNeg))) ((8 : Int32) + a1).toNatClampNeg) + (((u11.2.1 50) ((26 : Int32) + a2).toNatClampNeg) - a3))) (((14 : Int32) + ((6 : Int32) * a1)) + ((u11.2.1 50) ((42 : Int32) + a2).toNatClampNeg)).toNatClampNeg) - (F_X9_paid (sa u11 53 (upd (upd (upd (u11.2.1 53) ((4 : Int32) + a1).toNatClampNeg (((u11.2.1 53) ((4 : Int32) + a1).toNatClampNeg) - a3)) a1.toNatClampNeg (if (if ((τ.2.1 53) a1.toNatClampNeg) = ((τ.2.1 50) ((10 : Int32) + a2).toNatClampNeg) then (1 : Int32) else (0 : Int32)) = 0 then ((u11.2.1 50) ((10 : Int32) + a2).toNatClampNeg) else ((u11.2.1 50) ((18 : Int32) + a2).toNatClampNeg))) ((8 : Int32) + a1).toNatClampNeg (((upd (upd (u11.2.1 53) ((4 : Int32) + a1).toNatClampNeg (((u11.2.1 53) ((4 : Int32) + a1).toNatClampNeg) - a3)) a1.toNatClampNeg (if (if ((τ.2.1 53) a1.toNatClampNeg) = ((τ.2.1 50) ((10 : Int32) + a2).toNatClampNeg) then (1 : Int32) else (0 : Int32)) = 0 then ((u11.2.1 50) ((10 : Int32) + a2).toNatClampNeg) else ((u11.2.1 50) ((18 : Int32) + a2).toNatClampNeg))) ((8 : Int32) + a1).toNatClampNeg) + (((u11.2.1 50) ((26 : Int32) + a2).toNatClampNeg) - a3)))) a2 (((u11.2.1 50) ((26 : Int32) + a2).toNatClampNeg) - a3)))), (6, .int (((14 : Int32) + ((6 : Int32) * a1)) + ((u11.2.1 50) ((42 : Int32) + a2).toNatClampNeg))), (5, .int (((u11.2.1 50) ((26 : Int32) + a2).toNatClampNeg) - a3)), (4, .int (if ((τ.2.1 53) a1.toNatClampNeg) = ((τ.2.1 50) ((10 : Int32) + a2).toNatClampNeg) then (1 : Int32) else (0 : Int32))), (0, .ref (ad 48)), (1, .int a1), (2, .int a2), (3, .int a3)]) hx hb dX9_goes_249 hl (by decide) rfl (fun ls hl => ?_)
                      refine lv_aload_n hx hb dX9_goes_251 rfl (lv_at hl 4 rfl) ?_
                      refine g_get (v := .ref (ad 53)) E h 48 rfl rfl layX9 6 (by decide) rfl mw_825 rfl dX9_goes_252 ?_
                      refine lv_iload hx hb dX9_goes_255 (lv_at hl 1 rfl) ?_
                      refine lv_iload hx hb dX9_goes_257 (lv_at hl 0 rfl) ?_
                      refine lv_if_ge (tgt := 266) hx hb dX9_goes_259 (by decide) (fun c17 => ?_) (fun c17 => ?_)
                      · have ic17 : 0 ≤ (((upd (upd (upd (u11.2.1 53) ((4 : Int32) + a1).toNatClampNeg (((u11.2.1 53) ((4 : Int32) + a1).toNatClampNeg) - a3)) a1.toNatClampNeg (if (if ((τ.2.1 53) a1.toNatClampNeg) = ((τ.2.1 50) ((10 : Int32) + a2).toNatClampNeg) then (1 : Int32) else (0 : Int32)) = 0 then ((u11.2.1 50) ((10 : Int32) + a2).toNatClampNeg) else ((u11.2.1 50) ((18 : Int32) + a2).toNatClampNeg))) ((8 : Int32) + a1).toNatClampNeg (((upd (upd (u11.2.1 53) ((4 : Int32) + a1).toNatClampNeg (((u11.2.1 53) ((4 : Int32) + a1).toNatClampNeg) - a3)) a1.toNatClampNeg (if (if ((τ.2.1 53) a1.toNatClampNeg) = ((τ.2.1 50) ((10 : Int32) + a2).toNatClampNeg) then (1 : Int32) else (0 : Int32)) = 0 then ((u11.2.1 50) ((10 : Int32) + a2).toNatClampNeg) else ((u11.2.1 50) ((18 : Int32) + a2).toNatClampNeg))) ((8 : Int32) + a1).toNatClampNeg) + (((u11.2.1 50) ((26 : Int32) + a2).toNatClampNeg) - a3))) (((14 : Int32) + ((6 : Int32) * a1)) + ((u11.2.1 50) ((42 : Int32) + a2).toNatClampNeg)).toNatClampNeg) - (F_X9_paid (sa u11 53 (upd (upd (upd (u11.2.1 53) ((4 : Int32) + a1).toNatClampNeg (((u11.2.1 53) ((4 : Int32) + a1).toNatClampNeg) - a3)) a1.toNatClampNeg (if (if ((τ.2.1 53) a1.toNatClampNeg) = ((τ.2.1 50) ((10 : Int32) + a2).toNatClampNeg) then (1 : Int32) else (0 : Int32)) = 0 then ((u11.2.1 50) ((10 : Int32) + a2).toNatClampNeg) else ((u11.2.1 50) ((18 : Int32) + a2).toNatClampNeg))) ((8 : Int32) + a1).toNatClampNeg (((upd (upd (u11.2.1 53) ((4 : Int32) + a1).toNatClampNeg (((u11.2.1 53) ((4 : Int32) + a1).toNatClampNeg) - a3)) a1.toNatClampNeg (if (if ((τ.2.1 53) a1.toNatClampNeg) = ((τ.2.1 50) ((10 : Int32) + a2).toNatClampNeg) then (1 : Int32) else (0 : Int32)) = 0 then ((u11.2.1 50) ((10 : Int32) + a2).toNatClampNeg) else ((u11.2.1 50) ((18 : Int32) + a2).toNatClampNeg))) ((8 : Int32) + a1).toNatClampNeg) + (((u11.2.1 50) ((26 : Int32) + a2).toNatClampNeg) - a3)))) a2 (((u11.2.1 50) ((26 : Int32) + a2).toNatClampNeg) - a3))).toInt := i_le c17
                        have hF := (if_pos c17).symm.trans hF
                        refine lv_iload hx hb dX9_goes_266 (lv_at hl 0 rfl) ?_
                        refine g_iast (f := (upd (upd (upd (u11.2.1 53) ((4 : Int32) + a1).toNatClampNeg (((u11.2.1 53) ((4 : Int32) + a1).toNatClampNeg) - a3)) a1.toNatClampNeg (if (if ((τ.2.1 53) a1.toNatClampNeg) = ((τ.2.1 50) ((10 : Int32) + a2).toNatClampNeg) then (1 : Int32) else (0 : Int32)) = 0 then ((u11.2.1 50) ((10 : Int32) + a2).toNatClampNeg) else ((u11.2.1 50) ((18 : Int32) + a2).toNatClampNeg))) ((8 : Int32) + a1).toNatClampNeg (((upd (upd (u11.2.1 53) ((4 : Int32) + a1).toNatClampNeg (((u11.2.1 53) ((4 : Int32) + a1).toNatClampNeg) - a3)) a1.toNatClampNeg (if (if ((τ.2.1 53) a1.toNatClampNeg) = ((τ.2.1 50) ((10 : Int32) + a2).toNatClampNeg) then (1 : Int32) else (0 : Int32)) = 0 then ((u11.2.1 50) ((10 : Int32) + a2).toNatClampNeg) else ((u11.2.1 50) ((18 : Int32) + a2).toNatClampNeg))) ((8 : Int32) + a1).toNatClampNeg) + (((u11.2.1 50) ((26 : Int32) + a2).toNatClampNeg) - a3)))) (ws' := gws ad cI cZ σ (sa u11 53 (upd (upd (upd (upd (u11.2.1 53) ((4 : Int32) + a1).toNatClampNeg (((u11.2.1 53) ((4 : Int32) + a1).toNatClampNeg) - a3)) a1.toNatClampNeg (if (if ((τ.2.1 53) a1.toNatClampNeg) = ((τ.2.1 50) ((10 : Int32) + a2).toNatClampNeg) then (1 : Int32) else (0 : Int32)) = 0 then ((u11.2.1 50) ((10 : Int32) + a2).toNatClampNeg) else ((u11.2.1 50) ((18 : Int32) + a2).toNatClampNeg))) ((8 : Int32) + a1).toNatClampNeg (((upd (upd (u11.2.1 53) ((4 : Int32) + a1).toNatClampNeg (((u11.2.1 53) ((4 : Int32) + a1).toNatClampNeg) - a3)) a1.toNatClampNeg (if (if ((τ.2.1 53) a1.toNatClampNeg) = ((τ.2.1 50) ((10 : Int32) + a2).toNatClampNeg) then (1 : Int32) else (0 : Int32)) = 0 then ((u11.2.1 50) ((10 : Int32) + a2).toNatClampNeg) else ((u11.2.1 50) ((18 : Int32) + a2).toNatClampNeg))) ((8 : Int32) + a1).toNatClampNeg) + (((u11.2.1 50) ((26 : Int32) + a2).toNatClampNeg) - a3))) (((14 : Int32) + ((6 : Int32) * a1)) + ((u11.2.1 50) ((42 : Int32) + a2).toNatClampNeg)).toNatClampNeg (((upd (upd (upd (u11.2.1 53) ((4 : Int32) + a1).toNatClampNeg (((u11.2.1 53) ((4 : Int32) + a1).toNatClampNeg) - a3)) a1.toNatClampNeg (if (if ((τ.2.1 53) a1.toNatClampNeg) = ((τ.2.1 50) ((10 : Int32) + a2).toNatClampNeg) then (1 : Int32) else (0 : Int32)) = 0 then ((u11.2.1 50) ((10 : Int32) + a2).toNatClampNeg) else ((u11.2.1 50) ((18 : Int32) + a2).toNatClampNeg))) ((8 : Int32) + a1).toNatClampNeg (((upd (upd (u11.2.1 53) ((4 : Int32) + a1).toNatClampNeg (((u11.2.1 53) ((4 : Int32) + a1).toNatClampNeg) - a3)) a1.toNatClampNeg (if (if ((τ.2.1 53) a1.toNatClampNeg) = ((τ.2.1 50) ((10 : Int32) + a2).toNatClampNeg) then (1 : Int32) else (0 : Int32)) = 0 then ((u11.2.1 50) ((10 : Int32) + a2).toNatClampNeg) else ((u11.2.1 50) ((18 : Int32) + a2).toNatClampNeg))) ((8 : Int32) + a1).toNatClampNeg) + (((u11.2.1 50) ((26 : Int32) + a2).toNatClampNeg) - a3))) (((14 : Int32) + ((6 : Int32) * a1)) + ((u11.2.1 50) ((42 : Int32) + a2).toNatClampNeg)).toNatClampNeg) - (F_X9_paid (sa u11 53 (upd (upd (upd (u11.2.1 53) ((4 : Int32) + a1).toNatClampNeg (((u11.2.1 53) ((4 : Int32) + a1).toNatClampNeg) - a3)) a1.toNatClampNeg (if (if ((τ.2.1 53) a1.toNatClampNeg) = ((τ.2.1 50) ((10 : Int32) + a2).toNatClampNeg) then (1 : Int32) else (0 : Int32)) = 0 then ((u11.2.1 50) ((10 : Int32) + a2).toNatClampNeg) else ((u11.2.1 50) ((18 : Int32) + a2).toNatClampNeg))) ((8 : Int32) + a1).toNatClampNeg (((upd (upd (u11.2.1 53) ((4 : Int32) + a1).toNatClampNeg (((u11.2.1 53) ((4 : Int32) + a1).toNatClampNeg) - a3)) a1.toNatClampNeg (if (if ((τ.2.1 53) a1.toNatClampNeg) = ((τ.2.1 50) ((10 : Int32) + a2).toNatClampNeg) then (1 : Int32) else (0 : Int32)) = 0 then ((u11.2.1 50) ((10 : Int32) + a2).toNatClampNeg) else ((u11.2.1 50) ((18 : Int32) + a2).toNatClampNeg))) ((8 : Int32) + a1).toNatClampNeg) + (((u11.2.1 50) ((26 : Int32) + a2).toNatClampNeg) - a3)))) a2 (((u11.2.1 50) ((26 : Int32) + a2).toNatClampNeg) - a3)))))) E h 53 rfl (ix_of (oI_add (oI_add (oI_lit (x := 14) (a := 14) rfl) (oI_mul (oI_lit (x := 6) (a := 6) rfl) (oI_at a1))) (oI_at ((u11.2.1 50) ((42 : Int32) + a2).toNatClampNeg))) (by omega) (by decide)) ((ga_53 ad cI cZ σ (sa u11 53 (upd (upd (upd (u11.2.1 53) ((4 : Int32) + a1).toNatClampNeg (((u11.2.1 53) ((4 : Int32) + a1).toNatClampNeg) - a3)) a1.toNatClampNeg (if (if ((τ.2.1 53) a1.toNatClampNeg) = ((τ.2.1 50) ((10 : Int32) + a2).toNatClampNeg) then (1 : Int32) else (0 : Int32)) = 0 then ((u11.2.1 50) ((10 : Int32) + a2).toNatClampNeg) else ((u11.2.1 50) ((18 : Int32) + a2).toNatClampNeg))) ((8 : Int32) + a1).toNatClampNeg (((upd (upd (u11.2.1 53) ((4 : Int32) + a1).toNatClampNeg (((u11.2.1 53) ((4 : Int32) + a1).toNatClampNeg) - a3)) a1.toNatClampNeg (if (if ((τ.2.1 53) a1.toNatClampNeg) = ((τ.2.1 50) ((10 : Int32) + a2).toNatClampNeg) then (1 : Int32) else (0 : Int32)) = 0 then ((u11.2.1 50) ((10 : Int32) + a2).toNatClampNeg) else ((u11.2.1 50) ((18 : Int32) + a2).toNatClampNeg))) ((8 : Int32) + a1).toNatClampNeg) + (((u11.2.1 50) ((26 : Int32) + a2).toNatClampNeg) - a3)))) (upd (upd (upd (upd (u11.2.1 53) ((4 : Int32) + a1).toNatClampNeg (((u11.2.1 53) ((4 : Int32) + a1).toNatClampNeg) - a3)) a1.toNatClampNeg (if (if ((τ.2.1 53) a1.toNatClampNeg) = ((τ.2.1 50) ((10 : Int32) + a2).toNatClampNeg) then (1 : Int32) else (0 : Int32)) = 0 then ((u11.2.1 50) ((10 : Int32) + a2).toNatClampNeg) else ((u11.2.1 50) ((18 : Int32) + a2).toNatClampNeg))) ((8 : Int32) + a1).toNatClampNeg (((upd (upd (u11.2.1 53) ((4 : Int32) + a1).toNatClampNeg (((u11.2.1 53) ((4 : Int32) + a1).toNatClampNeg) - a3)) a1.toNatClampNeg (if (if ((τ.2.1 53) a1.toNatClampNeg) = ((τ.2.1 50) ((10 : Int32) + a2).toNatClampNeg) then (1 : Int32) else (0 : Int32)) = 0 then ((u11.2.1 50) ((10 : Int32) + a2).toNatClampNeg) else ((u11.2.1 50) ((18 : Int32) + a2).toNatClampNeg))) ((8 : Int32) + a1).toNatClampNeg) + (((u11.2.1 50) ((26 : Int32) + a2).toNatClampNeg) - a3))) (((14 : Int32) + ((6 : Int32) * a1)) + ((u11.2.1 50) ((42 : Int32) + a2).toNatClampNeg)).toNatClampNeg (((upd (upd (upd (u11.2.1 53) ((4 : Int32) + a1).toNatClampNeg (((u11.2.1 53) ((4 : Int32) + a1).toNatClampNeg) - a3)) a1.toNatClampNeg (if (if ((τ.2.1 53) a1.toNatClampNeg) = ((τ.2.1 50) ((10 : Int32) + a2).toNatClampNeg) then (1 : Int32) else (0 : Int32)) = 0 then ((u11.2.1 50) ((10 : Int32) + a2).toNatClampNeg) else ((u11.2.1 50) ((18 : Int32) + a2).toNatClampNeg))) ((8 : Int32) + a1).toNatClampNeg (((upd (upd (u11.2.1 53) ((4 : Int32) + a1).toNatClampNeg (((u11.2.1 53) ((4 : Int32) + a1).toNatClampNeg) - a3)) a1.toNatClampNeg (if (if ((τ.2.1 53) a1.toNatClampNeg) = ((τ.2.1 50) ((10 : Int32) + a2).toNatClampNeg) then (1 : Int32) else (0 : Int32)) = 0 then ((u11.2.1 50) ((10 : Int32) + a2).toNatClampNeg) else ((u11.2.1 50) ((18 : Int32) + a2).toNatClampNeg))) ((8 : Int32) + a1).toNatClampNeg) + (((u11.2.1 50) ((26 : Int32) + a2).toNatClampNeg) - a3))) (((14 : Int32) + ((6 : Int32) * a1)) + ((u11.2.1 50) ((42 : Int32) + a2).toNatClampNeg)).toNatClampNeg) - (F_X9_paid (sa u11 53 (upd (upd (upd (u11.2.1 53) ((4 : Int32) + a1).toNatClampNeg (((u11.2.1 53) ((4 : Int32) + a1).toNatClampNeg) - a3)) a1.toNatClampNeg (if (if ((τ.2.1 53) a1.toNatClampNeg) = ((τ.2.1 50) ((10 : Int32) + a2).toNatClampNeg) then (1 : Int32) else (0 : Int32)) = 0 then ((u11.2.1 50) ((10 : Int32) + a2).toNatClampNeg) else ((u11.2.1 50) ((18 : Int32) + a2).toNatClampNeg))) ((8 : Int32) + a1).toNatClampNeg (((upd (upd (u11.2.1 53) ((4 : Int32) + a1).toNatClampNeg (((u11.2.1 53) ((4 : Int32) + a1).toNatClampNeg) - a3)) a1.toNatClampNeg (if (if ((τ.2.1 53) a1.toNatClampNeg) = ((τ.2.1 50) ((10 : Int32) + a2).toNatClampNeg) then (1 : Int32) else (0 : Int32)) = 0 then ((u11.2.1 50) ((10 : Int32) + a2).toNatClampNeg) else ((u11.2.1 50) ((18 : Int32) + a2).toNatClampNeg))) ((8 : Int32) + a1).toNatClampNeg) + (((u11.2.1 50) ((26 : Int32) + a2).toNatClampNeg) - a3)))) a2 (((u11.2.1 50) ((26 : Int32) + a2).toNatClampNeg) - a3))))).trans (congrArg (fun u => gws ad cI cZ σ u) (sa_sa _ _ _ _))) dX9_goes_268 (fun H locs h => ?_)
                        refine lv_iconst (v := 1) hx hb dX9_goes_269 (by decide) ?_
                        exact g_iret E hr hlk h hQ (fst_of hF) (snd_of hF (fun u => gws ad cI cZ σ u)) dX9_goes_270
                      · have ic17 : (((upd (upd (upd (u11.2.1 53) ((4 : Int32) + a1).toNatClampNeg (((u11.2.1 53) ((4 : Int32) + a1).toNatClampNeg) - a3)) a1.toNatClampNeg (if (if ((τ.2.1 53) a1.toNatClampNeg) = ((τ.2.1 50) ((10 : Int32) + a2).toNatClampNeg) then (1 : Int32) else (0 : Int32)) = 0 then ((u11.2.1 50) ((10 : Int32) + a2).toNatClampNeg) else ((u11.2.1 50) ((18 : Int32) + a2).toNatClampNeg))) ((8 : Int32) + a1).toNatClampNeg (((upd (upd (u11.2.1 53) ((4 : Int32) + a1).toNatClampNeg (((u11.2.1 53) ((4 : Int32) + a1).toNatClampNeg) - a3)) a1.toNatClampNeg (if (if ((τ.2.1 53) a1.toNatClampNeg) = ((τ.2.1 50) ((10 : Int32) + a2).toNatClampNeg) then (1 : Int32) else (0 : Int32)) = 0 then ((u11.2.1 50) ((10 : Int32) + a2).toNatClampNeg) else ((u11.2.1 50) ((18 : Int32) + a2).toNatClampNeg))) ((8 : Int32) + a1).toNatClampNeg) + (((u11.2.1 50) ((26 : Int32) + a2).toNatClampNeg) - a3))) (((14 : Int32) + ((6 : Int32) * a1)) + ((u11.2.1 50) ((42 : Int32) + a2).toNatClampNeg)).toNatClampNeg) - (F_X9_paid (sa u11 53 (upd (upd (upd (u11.2.1 53) ((4 : Int32) + a1).toNatClampNeg (((u11.2.1 53) ((4 : Int32) + a1).toNatClampNeg) - a3)) a1.toNatClampNeg (if (if ((τ.2.1 53) a1.toNatClampNeg) = ((τ.2.1 50) ((10 : Int32) + a2).toNatClampNeg) then (1 : Int32) else (0 : Int32)) = 0 then ((u11.2.1 50) ((10 : Int32) + a2).toNatClampNeg) else ((u11.2.1 50) ((18 : Int32) + a2).toNatClampNeg))) ((8 : Int32) + a1).toNatClampNeg (((upd (upd (u11.2.1 53) ((4 : Int32) + a1).toNatClampNeg (((u11.2.1 53) ((4 : Int32) + a1).toNatClampNeg) - a3)) a1.toNatClampNeg (if (if ((τ.2.1 53) a1.toNatClampNeg) = ((τ.2.1 50) ((10 : Int32) + a2).toNatClampNeg) then (1 : Int32) else (0 : Int32)) = 0 then ((u11.2.1 50) ((10 : Int32) + a2).toNatClampNeg) else ((u11.2.1 50) ((18 : Int32) + a2).toNatClampNeg))) ((8 : Int32) + a1).toNatClampNeg) + (((u11.2.1 50) ((26 : Int32) + a2).toNatClampNeg) - a3)))) a2 (((u11.2.1 50) ((26 : Int32) + a2).toNatClampNeg) - a3))).toInt < 0 := i_nle c17
                        have hF := (if_neg c17).symm.trans hF
                        refine lv_iconst (v := 0) hx hb dX9_goes_262 (by decide) ?_
                        refine lv_goto (tgt := 268) hx hb dX9_goes_263 (by decide) ?_
                        refine g_iast (f := (upd (upd (upd (u11.2.1 53) ((4 : Int32) + a1).toNatClampNeg (((u11.2.1 53) ((4 : Int32) + a1).toNatClampNeg) - a3)) a1.toNatClampNeg (if (if ((τ.2.1 53) a1.toNatClampNeg) = ((τ.2.1 50) ((10 : Int32) + a2).toNatClampNeg) then (1 : Int32) else (0 : Int32)) = 0 then ((u11.2.1 50) ((10 : Int32) + a2).toNatClampNeg) else ((u11.2.1 50) ((18 : Int32) + a2).toNatClampNeg))) ((8 : Int32) + a1).toNatClampNeg (((upd (upd (u11.2.1 53) ((4 : Int32) + a1).toNatClampNeg (((u11.2.1 53) ((4 : Int32) + a1).toNatClampNeg) - a3)) a1.toNatClampNeg (if (if ((τ.2.1 53) a1.toNatClampNeg) = ((τ.2.1 50) ((10 : Int32) + a2).toNatClampNeg) then (1 : Int32) else (0 : Int32)) = 0 then ((u11.2.1 50) ((10 : Int32) + a2).toNatClampNeg) else ((u11.2.1 50) ((18 : Int32) + a2).toNatClampNeg))) ((8 : Int32) + a1).toNatClampNeg) + (((u11.2.1 50) ((26 : Int32) + a2).toNatClampNeg) - a3)))) (ws' := gws ad cI cZ σ (sa u11 53 (upd (upd (upd (upd (u11.2.1 53) ((4 : Int32) + a1).toNatClampNeg (((u11.2.1 53) ((4 : Int32) + a1).toNatClampNeg) - a3)) a1.toNatClampNeg (if (if ((τ.2.1 53) a1.toNatClampNeg) = ((τ.2.1 50) ((10 : Int32) + a2).toNatClampNeg) then (1 : Int32) else (0 : Int32)) = 0 then ((u11.2.1 50) ((10 : Int32) + a2).toNatClampNeg) else ((u11.2.1 50) ((18 : Int32) + a2).toNatClampNeg))) ((8 : Int32) + a1).toNatClampNeg (((upd (upd (u11.2.1 53) ((4 : Int32) + a1).toNatClampNeg (((u11.2.1 53) ((4 : Int32) + a1).toNatClampNeg) - a3)) a1.toNatClampNeg (if (if ((τ.2.1 53) a1.toNatClampNeg) = ((τ.2.1 50) ((10 : Int32) + a2).toNatClampNeg) then (1 : Int32) else (0 : Int32)) = 0 then ((u11.2.1 50) ((10 : Int32) + a2).toNatClampNeg) else ((u11.2.1 50) ((18 : Int32) + a2).toNatClampNeg))) ((8 : Int32) + a1).toNatClampNeg) + (((u11.2.1 50) ((26 : Int32) + a2).toNatClampNeg) - a3))) (((14 : Int32) + ((6 : Int32) * a1)) + ((u11.2.1 50) ((42 : Int32) + a2).toNatClampNeg)).toNatClampNeg (0 : Int32)))) E h 53 rfl (ix_of (oI_add (oI_add (oI_lit (x := 14) (a := 14) rfl) (oI_mul (oI_lit (x := 6) (a := 6) rfl) (oI_at a1))) (oI_at ((u11.2.1 50) ((42 : Int32) + a2).toNatClampNeg))) (by omega) (by decide)) ((ga_53 ad cI cZ σ (sa u11 53 (upd (upd (upd (u11.2.1 53) ((4 : Int32) + a1).toNatClampNeg (((u11.2.1 53) ((4 : Int32) + a1).toNatClampNeg) - a3)) a1.toNatClampNeg (if (if ((τ.2.1 53) a1.toNatClampNeg) = ((τ.2.1 50) ((10 : Int32) + a2).toNatClampNeg) then (1 : Int32) else (0 : Int32)) = 0 then ((u11.2.1 50) ((10 : Int32) + a2).toNatClampNeg) else ((u11.2.1 50) ((18 : Int32) + a2).toNatClampNeg))) ((8 : Int32) + a1).toNatClampNeg (((upd (upd (u11.2.1 53) ((4 : Int32) + a1).toNatClampNeg (((u11.2.1 53) ((4 : Int32) + a1).toNatClampNeg) - a3)) a1.toNatClampNeg (if (if ((τ.2.1 53) a1.toNatClampNeg) = ((τ.2.1 50) ((10 : Int32) + a2).toNatClampNeg) then (1 : Int32) else (0 : Int32)) = 0 then ((u11.2.1 50) ((10 : Int32) + a2).toNatClampNeg) else ((u11.2.1 50) ((18 : Int32) + a2).toNatClampNeg))) ((8 : Int32) + a1).toNatClampNeg) + (((u11.2.1 50) ((26 : Int32) + a2).toNatClampNeg) - a3)))) (upd (upd (upd (upd (u11.2.1 53) ((4 : Int32) + a1).toNatClampNeg (((u11.2.1 53) ((4 : Int32) + a1).toNatClampNeg) - a3)) a1.toNatClampNeg (if (if ((τ.2.1 53) a1.toNatClampNeg) = ((τ.2.1 50) ((10 : Int32) + a2).toNatClampNeg) then (1 : Int32) else (0 : Int32)) = 0 then ((u11.2.1 50) ((10 : Int32) + a2).toNatClampNeg) else ((u11.2.1 50) ((18 : Int32) + a2).toNatClampNeg))) ((8 : Int32) + a1).toNatClampNeg (((upd (upd (u11.2.1 53) ((4 : Int32) + a1).toNatClampNeg (((u11.2.1 53) ((4 : Int32) + a1).toNatClampNeg) - a3)) a1.toNatClampNeg (if (if ((τ.2.1 53) a1.toNatClampNeg) = ((τ.2.1 50) ((10 : Int32) + a2).toNatClampNeg) then (1 : Int32) else (0 : Int32)) = 0 then ((u11.2.1 50) ((10 : Int32) + a2).toNatClampNeg) else ((u11.2.1 50) ((18 : Int32) + a2).toNatClampNeg))) ((8 : Int32) + a1).toNatClampNeg) + (((u11.2.1 50) ((26 : Int32) + a2).toNatClampNeg) - a3))) (((14 : Int32) + ((6 : Int32) * a1)) + ((u11.2.1 50) ((42 : Int32) + a2).toNatClampNeg)).toNatClampNeg (0 : Int32))).trans (congrArg (fun u => gws ad cI cZ σ u) (sa_sa _ _ _ _))) dX9_goes_268 (fun H locs h => ?_)
                        refine lv_iconst (v := 1) hx hb dX9_goes_269 (by decide) ?_
                        exact g_iret E hr hlk h hQ (fst_of hF) (snd_of hF (fun u => gws ad cI cZ σ u)) dX9_goes_270
                    · have ic16 : ((u11.2.1 50) ((50 : Int32) + a1).toNatClampNeg).toInt < ((upd (upd (upd (u11.2.1 53) ((4 : Int32) + a1).toNatClampNeg (((u11.2.1 53) ((4 : Int32) + a1).toNatClampNeg) - a3)) a1.toNatClampNeg (if (if ((τ.2.1 53) a1.toNatClampNeg) = ((τ.2.1 50) ((10 : Int32) + a2).toNatClampNeg) then (1 : Int32) else (0 : Int32)) = 0 then ((u11.2.1 50) ((10 : Int32) + a2).toNatClampNeg) else ((u11.2.1 50) ((18 : Int32) + a2).toNatClampNeg))) ((8 : Int32) + a1).toNatClampNeg (((upd (upd (u11.2.1 53) ((4 : Int32) + a1).toNatClampNeg (((u11.2.1 53) ((4 : Int32) + a1).toNatClampNeg) - a3)) a1.toNatClampNeg (if (if ((τ.2.1 53) a1.toNatClampNeg) = ((τ.2.1 50) ((10 : Int32) + a2).toNatClampNeg) then (1 : Int32) else (0 : Int32)) = 0 then ((u11.2.1 50) ((10 : Int32) + a2).toNatClampNeg) else ((u11.2.1 50) ((18 : Int32) + a2).toNatClampNeg))) ((8 : Int32) + a1).toNatClampNeg) + (((u11.2.1 50) ((26 : Int32) + a2).toNatClampNeg) - a3))) ((8 : Int32) + a1).toNatClampNeg).toInt := i_nle c16
                      have hF := (if_neg c16).symm.trans hF
                      refine lv_aload_n hx hb dX9_goes_208 rfl (lv_at hl 2 rfl) ?_
                      refine lv_iload_n hx hb dX9_goes_209 rfl (lv_at hl 3 rfl) ?_
                      refine g_callVUv (F_X9_dies (sa u11 53 (upd (upd (upd (u11.2.1 53) ((4 : Int32) + a1).toNatClampNeg (((u11.2.1 53) ((4 : Int32) + a1).toNatClampNeg) - a3)) a1.toNatClampNeg (if (if ((τ.2.1 53) a1.toNatClampNeg) = ((τ.2.1 50) ((10 : Int32) + a2).toNatClampNeg) then (1 : Int32) else (0 : Int32)) = 0 then ((u11.2.1 50) ((10 : Int32) + a2).toNatClampNeg) else ((u11.2.1 50) ((18 : Int32) + a2).toNatClampNeg))) ((8 : Int32) + a1).toNatClampNeg (((upd (upd (u11.2.1 53) ((4 : Int32) + a1).toNatClampNeg (((u11.2.1 53) ((4 : Int32) + a1).toNatClampNeg) - a3)) a1.toNatClampNeg (if (if ((τ.2.1 53) a1.toNatClampNeg) = ((τ.2.1 50) ((10 : Int32) + a2).toNatClampNeg) then (1 : Int32) else (0 : Int32)) = 0 then ((u11.2.1 50) ((10 : Int32) + a2).toNatClampNeg) else ((u11.2.1 50) ((18 : Int32) + a2).toNatClampNeg))) ((8 : Int32) + a1).toNatClampNeg) + (((u11.2.1 50) ((26 : Int32) + a2).toNatClampNeg) - a3)))) a1) (fun u => gws ad cI cZ σ u) (rest := []) E h (c_X9_dies l D cI cZ z ad σ (sa u11 53 (upd (upd (upd (u11.2.1 53) ((4 : Int32) + a1).toNatClampNeg (((u11.2.1 53) ((4 : Int32) + a1).toNatClampNeg) - a3)) a1.toNatClampNeg (if (if ((τ.2.1 53) a1.toNatClampNeg) = ((τ.2.1 50) ((10 : Int32) + a2).toNatClampNeg) then (1 : Int32) else (0 : Int32)) = 0 then ((u11.2.1 50) ((10 : Int32) + a2).toNatClampNeg) else ((u11.2.1 50) ((18 : Int32) + a2).toNatClampNeg))) ((8 : Int32) + a1).toNatClampNeg (((upd (upd (u11.2.1 53) ((4 : Int32) + a1).toNatClampNeg (((u11.2.1 53) ((4 : Int32) + a1).toNatClampNeg) - a3)) a1.toNatClampNeg (if (if ((τ.2.1 53) a1.toNatClampNeg) = ((τ.2.1 50) ((10 : Int32) + a2).toNatClampNeg) then (1 : Int32) else (0 : Int32)) = 0 then ((u11.2.1 50) ((10 : Int32) + a2).toNatClampNeg) else ((u11.2.1 50) ((18 : Int32) + a2).toNatClampNeg))) ((8 : Int32) + a1).toNatClampNeg) + (((u11.2.1 50) ((26 : Int32) + a2).toNatClampNeg) - a3)))) a1 (show 0 ≤ a1.toInt ∧ a1.toInt < 4 from by omega)) mw_959 cbX9_dies 48 rfl rfl ⟨by decide, by decide⟩ rfl rfl hl.1 (Nat.le_of_ble_eq_true rfl) ⟨Nat.zero_le _, Nat.zero_le _⟩ dX9_goes_210 (fun u18 huu18 H locs h => ?_)
                      have hF : F_X9_goes_k210_19 τ a1 a2 a3 u11 u18 = (F_X9_goes τ a1 a2 a3) := by rw [← huu18]; exact hF
                      refine lv_iconst (v := 0) hx hb dX9_goes_213 (by decide) ?_
                      exact g_iret E hr hlk h hQ (fst_of hF) (snd_of hF (fun u => gws ad cI cZ σ u)) dX9_goes_214
                  · refine lv_if_eq (tgt := 163) hx hb dX9_goes_148 (by decide) (fun c15 => ?_) (fun c15 => ?_)
                    · have ic15 : (if ((τ.2.1 53) a1.toNatClampNeg) = ((τ.2.1 50) ((10 : Int32) + a2).toNatClampNeg) then (1 : Int32) else (0 : Int32)).toInt = 0 := i_eq c15
                      refine lv_aload_n hx hb dX9_goes_163 rfl (lv_at hl 2 rfl) ?_
                      refine g_get (v := .ref (ad 50)) E h 48 rfl rfl layX9 3 (by decide) rfl mw_822 rfl dX9_goes_164 ?_
                      refine lv_bipush (v := 10) hx hb dX9_goes_167 (by decide) ?_
                      refine lv_iload_n hx hb dX9_goes_169 rfl (lv_at hl 4 rfl) ?_
                      refine lv_iadd hx hb dX9_goes_170 ?_
                      refine g_iald (f := (u11.2.1 50)) E h 50 rfl (ix_of (oI_add (oI_lit (x := 10) (a := 10) rfl) (oI_at a2)) (by omega) (by decide)) dX9_goes_171 ?_
                      exact K14 _ _ _ ((if_pos c15).symm) h
                    · have ic15 : (if ((τ.2.1 53) a1.toNatClampNeg) = ((τ.2.1 50) ((10 : Int32) + a2).toNatClampNeg) then (1 : Int32) else (0 : Int32)).toInt ≠ 0 := i_ne c15
                      refine lv_aload_n hx hb dX9_goes_151 rfl (lv_at hl 2 rfl) ?_
                      refine g_get (v := .ref (ad 50)) E h 48 rfl rfl layX9 3 (by decide) rfl mw_822 rfl dX9_goes_152 ?_
                      refine lv_bipush (v := 18) hx hb dX9_goes_155 (by decide) ?_
                      refine lv_iload_n hx hb dX9_goes_157 rfl (lv_at hl 4 rfl) ?_
                      refine lv_iadd hx hb dX9_goes_158 ?_
                      refine g_iald (f := (u11.2.1 50)) E h 50 rfl (ix_of (oI_add (oI_lit (x := 18) (a := 18) rfl) (oI_at a2)) (by omega) (by decide)) dX9_goes_159 ?_
                      refine lv_goto (tgt := 172) hx hb dX9_goes_160 (by decide) ?_
                      exact K14 _ _ _ ((if_neg c15).symm) h
                · have ic10 : ((τ.2.1 50) ((26 : Int32) + a2).toNatClampNeg).toInt < a3.toInt := i_nle c10
                  have hF := (if_neg c10).symm.trans hF
                  refine lv_bipush (v := (-2)) hx hb dX9_goes_109 (by decide) ?_
                  exact g_iret E hr hlk h hQ (fst_of hF) (snd_of hF (fun u => gws ad cI cZ σ u)) dX9_goes_111
            · have ic8 : (if ((τ.2.1 53) a1.toNatClampNeg) = ((τ.2.1 50) ((10 : Int32) + a2).toNatClampNeg) then (1 : Int32) else (0 : Int32)).toInt = 0 := i_eq c8
              have hF := (if_pos c8).symm.trans hF
              refine lv_aload_n hx hb dX9_goes_66 rfl (lv_at hl 1 rfl) ?_
              refine g_get (v := .ref (ad 53)) E h 48 rfl rfl layX9 6 (by decide) rfl mw_825 rfl dX9_goes_67 ?_
              refine lv_iload_n hx hb dX9_goes_70 rfl (lv_at hl 2 rfl) ?_
              refine g_iald (f := (τ.2.1 53)) E h 53 rfl (ix_of (oI_at a1) (by omega) (by decide)) dX9_goes_71 ?_
              refine lv_aload_n hx hb dX9_goes_72 rfl (lv_at hl 1 rfl) ?_
              refine g_get (v := .ref (ad 50)) E h 48 rfl rfl layX9 3 (by decide) rfl mw_822 rfl dX9_goes_73 ?_
              refine lv_bipush (v := 18) hx hb dX9_goes_76 (by decide) ?_
              refine lv_iload_n hx hb dX9_goes_78 rfl (lv_at hl 3 rfl) ?_
              refine lv_iadd hx hb dX9_goes_79 ?_
              refine g_iald (f := (τ.2.1 50)) E h 50 rfl (ix_of (oI_add (oI_lit (x := 18) (a := 18) rfl) (oI_at a2)) (by omega) (by decide)) dX9_goes_80 ?_
              refine lv_icmp_ne (tgt := 109) hx hb dX9_goes_81 (by decide) (fun c20 => ?_) (fun c20 => ?_)
              · have ic20 : ((τ.2.1 53) a1.toNatClampNeg).toInt ≠ ((τ.2.1 50) ((18 : Int32) + a2).toNatClampNeg).toInt := i_ne c20
                have hF := (if_neg c20).symm.trans hF
                refine lv_bipush (v := (-2)) hx hb dX9_goes_109 (by decide) ?_
                exact g_iret E hr hlk h hQ (fst_of hF) (snd_of hF (fun u => gws ad cI cZ σ u)) dX9_goes_111
              · have ic20 : ((τ.2.1 53) a1.toNatClampNeg).toInt = ((τ.2.1 50) ((18 : Int32) + a2).toNatClampNeg).toInt := i_eq c20
                have hF := (if_pos c20).symm.trans hF
                refine lv_iload_n hx hb dX9_goes_84 rfl (lv_at hl 4 rfl) ?_
                refine lv_aload_n hx hb dX9_goes_85 rfl (lv_at hl 1 rfl) ?_
                refine g_get (v := .ref (ad 53)) E h 48 rfl rfl layX9 6 (by decide) rfl mw_825 rfl dX9_goes_86 ?_
                refine lv_iconst (v := 4) hx hb dX9_goes_89 (by decide) ?_
                refine lv_iload_n hx hb dX9_goes_90 rfl (lv_at hl 2 rfl) ?_
                refine lv_iadd hx hb dX9_goes_91 ?_
                refine g_iald (f := (τ.2.1 53)) E h 53 rfl (ix_of (oI_add (oI_lit (x := 4) (a := 4) rfl) (oI_at a1)) (by omega) (by decide)) dX9_goes_92 ?_
                refine lv_icmp_gt (tgt := 109) hx hb dX9_goes_93 (by decide) (fun c21 => ?_) (fun c21 => ?_)
                · have ic21 : ((τ.2.1 53) ((4 : Int32) + a1).toNatClampNeg).toInt < a3.toInt := i_lt c21
                  have hF := (if_pos c21).symm.trans hF
                  refine lv_bipush (v := (-2)) hx hb dX9_goes_109 (by decide) ?_
                  exact g_iret E hr hlk h hQ (fst_of hF) (snd_of hF (fun u => gws ad cI cZ σ u)) dX9_goes_111
                · have ic21 : a3.toInt ≤ ((τ.2.1 53) ((4 : Int32) + a1).toNatClampNeg).toInt := i_nlt c21
                  have hF := (if_neg c21).symm.trans hF
                  refine lv_iload_n hx hb dX9_goes_96 rfl (lv_at hl 4 rfl) ?_
                  refine lv_aload_n hx hb dX9_goes_97 rfl (lv_at hl 1 rfl) ?_
                  refine g_get (v := .ref (ad 50)) E h 48 rfl rfl layX9 3 (by decide) rfl mw_822 rfl dX9_goes_98 ?_
                  refine lv_bipush (v := 26) hx hb dX9_goes_101 (by decide) ?_
                  refine lv_iload_n hx hb dX9_goes_103 rfl (lv_at hl 3 rfl) ?_
                  refine lv_iadd hx hb dX9_goes_104 ?_
                  refine g_iald (f := (τ.2.1 50)) E h 50 rfl (ix_of (oI_add (oI_lit (x := 26) (a := 26) rfl) (oI_at a2)) (by omega) (by decide)) dX9_goes_105 ?_
                  refine lv_icmp_le (tgt := 112) hx hb dX9_goes_106 (by decide) (fun c22 => ?_) (fun c22 => ?_)
                  · have ic22 : a3.toInt ≤ ((τ.2.1 50) ((26 : Int32) + a2).toNatClampNeg).toInt := i_le c22
                    have hF := (if_pos c22).symm.trans hF
                    refine lv_aload_n hx hb dX9_goes_112 rfl (lv_at hl 1 rfl) ?_
                    refine g_callVUv (F_X9_keeps τ) (fun u => gws ad cI cZ σ u) (rest := []) E h (c_X9_keeps l D cI cZ z ad σ τ (show 0 ≤ ((τ.2.1 53) 74).toInt ∧ ((τ.2.1 53) 74).toInt ≤ 10 from by omega)) mw_955 cbX9_keeps 48 rfl rfl ⟨by decide, by decide⟩ rfl rfl hl.1 (Nat.le_of_ble_eq_true rfl) ⟨Nat.zero_le _, Nat.zero_le _⟩ dX9_goes_113 (fun u23 huu23 H locs h => ?_)
                    have hF : F_X9_goes_k113_24 τ a1 a2 a3 u23 = (F_X9_goes τ a1 a2 a3) := by rw [← huu23]; exact hF
                    have kA50 : u23.2.1 50 = τ.2.1 50 := by rw [← huu23]; exact (fr_F_X9_keeps _).2.1 50 (by decide)
                    have hl1 : 0 ≤ ((u23.2.1 50) ((42 : Int32) + a2).toNatClampNeg).toInt ∧ ((u23.2.1 50) ((42 : Int32) + a2).toNatClampNeg).toInt ≤ 5 := by rw [kA50]; exact hl_ a2 (by omega) (by omega)
                    refine lv_aload_n hx hb dX9_goes_116 rfl (lv_at hl 1 rfl) ?_
                    refine g_get (v := .ref (ad 50)) E h 48 rfl rfl layX9 3 (by decide) rfl mw_822 rfl dX9_goes_117 ?_
                    refine lv_bipush (v := 26) hx hb dX9_goes_120 (by decide) ?_
                    refine lv_iload_n hx hb dX9_goes_122 rfl (lv_at hl 3 rfl) ?_
                    refine lv_iadd hx hb dX9_goes_123 ?_
                    refine g_iald (f := (u23.2.1 50)) E h 50 rfl (ix_of (oI_add (oI_lit (x := 26) (a := 26) rfl) (oI_at a2)) (by omega) (by decide)) dX9_goes_124 ?_
                    refine lv_iload_n hx hb dX9_goes_125 rfl (lv_at hl 4 rfl) ?_
                    refine lv_isub hx hb dX9_goes_126 ?_
                    refine lv_istore (lv' := [(5, .int (((u23.2.1 50) ((26 : Int32) + a2).toNatClampNeg) - a3)), (4, .int (if ((τ.2.1 53) a1.toNatClampNeg) = ((τ.2.1 50) ((10 : Int32) + a2).toNatClampNeg) then (1 : Int32) else (0 : Int32))), (0, .ref (ad 48)), (1, .int a1), (2, .int a2), (3, .int a3)]) hx hb dX9_goes_127 hl (by decide) rfl (fun ls hl => ?_)
                    refine lv_aload_n hx hb dX9_goes_129 rfl (lv_at hl 2 rfl) ?_
                    refine g_get (v := .ref (ad 53)) E h 48 rfl rfl layX9 6 (by decide) rfl mw_825 rfl dX9_goes_130 ?_
                    refine lv_iconst (v := 4) hx hb dX9_goes_133 (by decide) ?_
                    refine lv_iload_n hx hb dX9_goes_134 rfl (lv_at hl 3 rfl) ?_
                    refine lv_iadd hx hb dX9_goes_135 ?_
                    refine lv_dup2_11 hx hb dX9_goes_136 rfl rfl ?_
                    refine g_iald (f := (u23.2.1 53)) E h 53 rfl (ix_of (oI_add (oI_lit (x := 4) (a := 4) rfl) (oI_at a1)) (by omega) (by decide)) dX9_goes_137 ?_
                    refine lv_iload_n hx hb dX9_goes_138 rfl (lv_at hl 5 rfl) ?_
                    refine lv_isub hx hb dX9_goes_139 ?_
                    refine g_iast (f := (u23.2.1 53)) (ws' := gws ad cI cZ σ (sa u23 53 (upd (u23.2.1 53) ((4 : Int32) + a1).toNatClampNeg (((u23.2.1 53) ((4 : Int32) + a1).toNatClampNeg) - a3)))) E h 53 rfl (ix_of (oI_add (oI_lit (x := 4) (a := 4) rfl) (oI_at a1)) (by omega) (by decide)) (ga_53 ad cI cZ σ u23 (upd (u23.2.1 53) ((4 : Int32) + a1).toNatClampNeg (((u23.2.1 53) ((4 : Int32) + a1).toNatClampNeg) - a3))) dX9_goes_140 (fun H locs h => ?_)
                    refine lv_aload_n hx hb dX9_goes_141 rfl (lv_at hl 2 rfl) ?_
                    refine g_get (v := .ref (ad 53)) E h 48 rfl rfl layX9 6 (by decide) rfl mw_825 rfl dX9_goes_142 ?_
                    refine lv_iload_n hx hb dX9_goes_145 rfl (lv_at hl 3 rfl) ?_
                    refine lv_iload hx hb dX9_goes_146 (lv_at hl 1 rfl) ?_
                    refine g_dia (D := D) (z := z) (ws := gws ad cI cZ σ (sa u23 53 (upd (u23.2.1 53) ((4 : Int32) + a1).toNatClampNeg (((u23.2.1 53) ((4 : Int32) + a1).toNatClampNeg) - a3)))) (rest := [.int a1, .ref (ad 53)]) 172 (if (if ((τ.2.1 53) a1.toNatClampNeg) = ((τ.2.1 50) ((10 : Int32) + a2).toNatClampNeg) then (1 : Int32) else (0 : Int32)) = 0 then ((u23.2.1 50) ((10 : Int32) + a2).toNatClampNeg) else ((u23.2.1 50) ((18 : Int32) + a2).toNatClampNeg)) (fun H locs h => ?_) (fun K26 => ?_)
                    · refine g_iast (f := (upd (u23.2.1 53) ((4 : Int32) + a1).toNatClampNeg (((u23.2.1 53) ((4 : Int32) + a1).toNatClampNeg) - a3))) (ws' := gws ad cI cZ σ (sa u23 53 (upd (upd (u23.2.1 53) ((4 : Int32) + a1).toNatClampNeg (((u23.2.1 53) ((4 : Int32) + a1).toNatClampNeg) - a3)) a1.toNatClampNeg (if (if ((τ.2.1 53) a1.toNatClampNeg) = ((τ.2.1 50) ((10 : Int32) + a2).toNatClampNeg) then (1 : Int32) else (0 : Int32)) = 0 then ((u23.2.1 50) ((10 : Int32) + a2).toNatClampNeg) else ((u23.2.1 50) ((18 : Int32) + a2).toNatClampNeg))))) E h 53 rfl (ix_of (oI_at a1) (by omega) (by decide)) ((ga_53 ad cI cZ σ (sa u23 53 (upd (u23.2.1 53) ((4 : Int32) + a1).toNatClampNeg (((u23.2.1 53) ((4 : Int32) + a1).toNatClampNeg) - a3))) (upd (upd (u23.2.1 53) ((4 : Int32) + a1).toNatClampNeg (((u23.2.1 53) ((4 : Int32) + a1).toNatClampNeg) - a3)) a1.toNatClampNeg (if (if ((τ.2.1 53) a1.toNatClampNeg) = ((τ.2.1 50) ((10 : Int32) + a2).toNatClampNeg) then (1 : Int32) else (0 : Int32)) = 0 then ((u23.2.1 50) ((10 : Int32) + a2).toNatClampNeg) else ((u23.2.1 50) ((18 : Int32) + a2).toNatClampNeg)))).trans (congrArg (fun u => gws ad cI cZ σ u) (sa_sa _ _ _ _))) dX9_goes_172 (fun H locs h => ?_)
                      refine lv_aload_n hx hb dX9_goes_173 rfl (lv_at hl 2 rfl) ?_
                      refine g_get (v := .ref (ad 53)) E h 48 rfl rfl layX9 6 (by decide) rfl mw_825 rfl dX9_goes_174 ?_
                      refine lv_bipush (v := 8) hx hb dX9_goes_177 (by decide) ?_
                      refine lv_iload_n hx hb dX9_goes_179 rfl (lv_at hl 3 rfl) ?_
                      refine lv_iadd hx hb dX9_goes_180 ?_
                      refine lv_dup2_11 hx hb dX9_goes_181 rfl rfl ?_
                      refine g_iald (f := (upd (upd (u23.2.1 53) ((4 : Int32) + a1).toNatClampNeg (((u23.2.1 53) ((4 : Int32) + a1).toNatClampNeg) - a3)) a1.toNatClampNeg (if (if ((τ.2.1 53) a1.toNatClampNeg) = ((τ.2.1 50) ((10 : Int32) + a2).toNatClampNeg) then (1 : Int32) else (0 : Int32)) = 0 then ((u23.2.1 50) ((10 : Int32) + a2).toNatClampNeg) else ((u23.2.1 50) ((18 : Int32) + a2).toNatClampNeg)))) E h 53 rfl (ix_of (oI_add (oI_lit (x := 8) (a := 8) rfl) (oI_at a1)) (by omega) (by decide)) dX9_goes_182 ?_
                      refine lv_iload hx hb dX9_goes_183 (lv_at hl 0 rfl) ?_
                      refine lv_iadd hx hb dX9_goes_185 ?_
                      refine g_iast (f := (upd (upd (u23.2.1 53) ((4 : Int32) + a1).toNatClampNeg (((u23.2.1 53) ((4 : Int32) + a1).toNatClampNeg) - a3)) a1.toNatClampNeg (if (if ((τ.2.1 53) a1.toNatClampNeg) = ((τ.2.1 50) ((10 : Int32) + a2).toNatClampNeg) then (1 : Int32) else (0 : Int32)) = 0 then ((u23.2.1 50) ((10 : Int32) + a2).toNatClampNeg) else ((u23.2.1 50) ((18 : Int32) + a2).toNatClampNeg)))) (ws' := gws ad cI cZ σ (sa u23 53 (upd (upd (upd (u23.2.1 53) ((4 : Int32) + a1).toNatClampNeg (((u23.2.1 53) ((4 : Int32) + a1).toNatClampNeg) - a3)) a1.toNatClampNeg (if (if ((τ.2.1 53) a1.toNatClampNeg) = ((τ.2.1 50) ((10 : Int32) + a2).toNatClampNeg) then (1 : Int32) else (0 : Int32)) = 0 then ((u23.2.1 50) ((10 : Int32) + a2).toNatClampNeg) else ((u23.2.1 50) ((18 : Int32) + a2).toNatClampNeg))) ((8 : Int32) + a1).toNatClampNeg (((upd (upd (u23.2.1 53) ((4 : Int32) + a1).toNatClampNeg (((u23.2.1 53) ((4 : Int32) + a1).toNatClampNeg) - a3)) a1.toNatClampNeg (if (if ((τ.2.1 53) a1.toNatClampNeg) = ((τ.2.1 50) ((10 : Int32) + a2).toNatClampNeg) then (1 : Int32) else (0 : Int32)) = 0 then ((u23.2.1 50) ((10 : Int32) + a2).toNatClampNeg) else ((u23.2.1 50) ((18 : Int32) + a2).toNatClampNeg))) ((8 : Int32) + a1).toNatClampNeg) + (((u23.2.1 50) ((26 : Int32) + a2).toNatClampNeg) - a3))))) E h 53 rfl (ix_of (oI_add (oI_lit (x := 8) (a := 8) rfl) (oI_at a1)) (by omega) (by decide)) ((ga_53 ad cI cZ σ (sa u23 53 (upd (upd (u23.2.1 53) ((4 : Int32) + a1).toNatClampNeg (((u23.2.1 53) ((4 : Int32) + a1).toNatClampNeg) - a3)) a1.toNatClampNeg (if (if ((τ.2.1 53) a1.toNatClampNeg) = ((τ.2.1 50) ((10 : Int32) + a2).toNatClampNeg) then (1 : Int32) else (0 : Int32)) = 0 then ((u23.2.1 50) ((10 : Int32) + a2).toNatClampNeg) else ((u23.2.1 50) ((18 : Int32) + a2).toNatClampNeg)))) (upd (upd (upd (u23.2.1 53) ((4 : Int32) + a1).toNatClampNeg (((u23.2.1 53) ((4 : Int32) + a1).toNatClampNeg) - a3)) a1.toNatClampNeg (if (if ((τ.2.1 53) a1.toNatClampNeg) = ((τ.2.1 50) ((10 : Int32) + a2).toNatClampNeg) then (1 : Int32) else (0 : Int32)) = 0 then ((u23.2.1 50) ((10 : Int32) + a2).toNatClampNeg) else ((u23.2.1 50) ((18 : Int32) + a2).toNatClampNeg))) ((8 : Int32) + a1).toNatClampNeg (((upd (upd (u23.2.1 53) ((4 : Int32) + a1).toNatClampNeg (((u23.2.1 53) ((4 : Int32) + a1).toNatClampNeg) - a3)) a1.toNatClampNeg (if (if ((τ.2.1 53) a1.toNatClampNeg) = ((τ.2.1 50) ((10 : Int32) + a2).toNatClampNeg) then (1 : Int32) else (0 : Int32)) = 0 then ((u23.2.1 50) ((10 : Int32) + a2).toNatClampNeg) else ((u23.2.1 50) ((18 : Int32) + a2).toNatClampNeg))) ((8 : Int32) + a1).toNatClampNeg) + (((u23.2.1 50) ((26 : Int32) + a2).toNatClampNeg) - a3)))).trans (congrArg (fun u => gws ad cI cZ σ u) (sa_sa _ _ _ _))) dX9_goes_186 (fun H locs h => ?_)
                      refine lv_aload_n hx hb dX9_goes_187 rfl (lv_at hl 2 rfl) ?_
                      refine g_get (v := .ref (ad 53)) E h 48 rfl rfl layX9 6 (by decide) rfl mw_825 rfl dX9_goes_188 ?_
                      refine lv_bipush (v := 8) hx hb dX9_goes_191 (by decide) ?_
                      refine lv_iload_n hx hb dX9_goes_193 rfl (lv_at hl 3 rfl) ?_
                      refine lv_iadd hx hb dX9_goes_194 ?_
                      refine g_iald (f := (upd (upd (upd (u23.2.1 53) ((4 : Int32) + a1).toNatClampNeg (((u23.2.1 53) ((4 : Int32) + a1).toNatClampNeg) - a3)) a1.toNatClampNeg (if (if ((τ.2.1 53) a1.toNatClampNeg) = ((τ.2.1 50) ((10 : Int32) + a2).toNatClampNeg) then (1 : Int32) else (0 : Int32)) = 0 then ((u23.2.1 50) ((10 : Int32) + a2).toNatClampNeg) else ((u23.2.1 50) ((18 : Int32) + a2).toNatClampNeg))) ((8 : Int32) + a1).toNatClampNeg (((upd (upd (u23.2.1 53) ((4 : Int32) + a1).toNatClampNeg (((u23.2.1 53) ((4 : Int32) + a1).toNatClampNeg) - a3)) a1.toNatClampNeg (if (if ((τ.2.1 53) a1.toNatClampNeg) = ((τ.2.1 50) ((10 : Int32) + a2).toNatClampNeg) then (1 : Int32) else (0 : Int32)) = 0 then ((u23.2.1 50) ((10 : Int32) + a2).toNatClampNeg) else ((u23.2.1 50) ((18 : Int32) + a2).toNatClampNeg))) ((8 : Int32) + a1).toNatClampNeg) + (((u23.2.1 50) ((26 : Int32) + a2).toNatClampNeg) - a3)))) E h 53 rfl (ix_of (oI_add (oI_lit (x := 8) (a := 8) rfl) (oI_at a1)) (by omega) (by decide)) dX9_goes_195 ?_
                      refine lv_aload_n hx hb dX9_goes_196 rfl (lv_at hl 2 rfl) ?_
                      refine g_get (v := .ref (ad 50)) E h 48 rfl rfl layX9 3 (by decide) rfl mw_822 rfl dX9_goes_197 ?_
                      refine lv_bipush (v := 50) hx hb dX9_goes_200 (by decide) ?_
                      refine lv_iload_n hx hb dX9_goes_202 rfl (lv_at hl 3 rfl) ?_
                      refine lv_iadd hx hb dX9_goes_203 ?_
                      refine g_iald (f := (u23.2.1 50)) E h 50 rfl (ix_of (oI_add (oI_lit (x := 50) (a := 50) rfl) (oI_at a1)) (by omega) (by decide)) dX9_goes_204 ?_
                      refine lv_icmp_le (tgt := 215) hx hb dX9_goes_205 (by decide) (fun c28 => ?_) (fun c28 => ?_)
                      · have ic28 : ((upd (upd (upd (u23.2.1 53) ((4 : Int32) + a1).toNatClampNeg (((u23.2.1 53) ((4 : Int32) + a1).toNatClampNeg) - a3)) a1.toNatClampNeg (if (if ((τ.2.1 53) a1.toNatClampNeg) = ((τ.2.1 50) ((10 : Int32) + a2).toNatClampNeg) then (1 : Int32) else (0 : Int32)) = 0 then ((u23.2.1 50) ((10 : Int32) + a2).toNatClampNeg) else ((u23.2.1 50) ((18 : Int32) + a2).toNatClampNeg))) ((8 : Int32) + a1).toNatClampNeg (((upd (upd (u23.2.1 53) ((4 : Int32) + a1).toNatClampNeg (((u23.2.1 53) ((4 : Int32) + a1).toNatClampNeg) - a3)) a1.toNatClampNeg (if (if ((τ.2.1 53) a1.toNatClampNeg) = ((τ.2.1 50) ((10 : Int32) + a2).toNatClampNeg) then (1 : Int32) else (0 : Int32)) = 0 then ((u23.2.1 50) ((10 : Int32) + a2).toNatClampNeg) else ((u23.2.1 50) ((18 : Int32) + a2).toNatClampNeg))) ((8 : Int32) + a1).toNatClampNeg) + (((u23.2.1 50) ((26 : Int32) + a2).toNatClampNeg) - a3))) ((8 : Int32) + a1).toNatClampNeg).toInt ≤ ((u23.2.1 50) ((50 : Int32) + a1).toNatClampNeg).toInt := i_le c28
                        have hF := (if_pos c28).symm.trans hF
                        refine lv_bipush (v := 14) hx hb dX9_goes_215 (by decide) ?_
                        refine lv_bipush (v := 6) hx hb dX9_goes_217 (by decide) ?_
                        refine lv_iload_n hx hb dX9_goes_219 rfl (lv_at hl 3 rfl) ?_
                        refine lv_imul hx hb dX9_goes_220 ?_
                        refine lv_iadd hx hb dX9_goes_221 ?_
                        refine lv_aload_n hx hb dX9_goes_222 rfl (lv_at hl 2 rfl) ?_
                        refine g_get (v := .ref (ad 50)) E h 48 rfl rfl layX9 3 (by decide) rfl mw_822 rfl dX9_goes_223 ?_
                        refine lv_bipush (v := 42) hx hb dX9_goes_226 (by decide) ?_
                        refine lv_iload_n hx hb dX9_goes_228 rfl (lv_at hl 4 rfl) ?_
                        refine lv_iadd hx hb dX9_goes_229 ?_
                        refine g_iald (f := (u23.2.1 50)) E h 50 rfl (ix_of (oI_add (oI_lit (x := 42) (a := 42) rfl) (oI_at a2)) (by omega) (by decide)) dX9_goes_230 ?_
                        refine lv_iadd hx hb dX9_goes_231 ?_
                        refine lv_istore (lv' := [(6, .int (((14 : Int32) + ((6 : Int32) * a1)) + ((u23.2.1 50) ((42 : Int32) + a2).toNatClampNeg))), (5, .int (((u23.2.1 50) ((26 : Int32) + a2).toNatClampNeg) - a3)), (4, .int (if ((τ.2.1 53) a1.toNatClampNeg) = ((τ.2.1 50) ((10 : Int32) + a2).toNatClampNeg) then (1 : Int32) else (0 : Int32))), (0, .ref (ad 48)), (1, .int a1), (2, .int a2), (3, .int a3)]) hx hb dX9_goes_232 hl (by decide) rfl (fun ls hl => ?_)
                        refine lv_aload_n hx hb dX9_goes_234 rfl (lv_at hl 3 rfl) ?_
                        refine g_get (v := .ref (ad 53)) E h 48 rfl rfl layX9 6 (by decide) rfl mw_825 rfl dX9_goes_235 ?_
                        refine lv_iload hx hb dX9_goes_238 (lv_at hl 0 rfl) ?_
                        refine g_iald (f := (upd (upd (upd (u23.2.1 53) ((4 : Int32) + a1).toNatClampNeg (((u23.2.1 53) ((4 : Int32) + a1).toNatClampNeg) - a3)) a1.toNatClampNeg (if (if ((τ.2.1 53) a1.toNatClampNeg) = ((τ.2.1 50) ((10 : Int32) + a2).toNatClampNeg) then (1 : Int32) else (0 : Int32)) = 0 then ((u23.2.1 50) ((10 : Int32) + a2).toNatClampNeg) else ((u23.2.1 50) ((18 : Int32) + a2).toNatClampNeg))) ((8 : Int32) + a1).toNatClampNeg (((upd (upd (u23.2.1 53) ((4 : Int32) + a1).toNatClampNeg (((u23.2.1 53) ((4 : Int32) + a1).toNatClampNeg) - a3)) a1.toNatClampNeg (if (if ((τ.2.1 53) a1.toNatClampNeg) = ((τ.2.1 50) ((10 : Int32) + a2).toNatClampNeg) then (1 : Int32) else (0 : Int32)) = 0 then ((u23.2.1 50) ((10 : Int32) + a2).toNatClampNeg) else ((u23.2.1 50) ((18 : Int32) + a2).toNatClampNeg))) ((8 : Int32) + a1).toNatClampNeg) + (((u23.2.1 50) ((26 : Int32) + a2).toNatClampNeg) - a3)))) E h 53 rfl (ix_of (oI_add (oI_add (oI_lit (x := 14) (a := 14) rfl) (oI_mul (oI_lit (x := 6) (a := 6) rfl) (oI_at a1))) (oI_at ((u23.2.1 50) ((42 : Int32) + a2).toNatClampNeg))) (by omega) (by decide)) dX9_goes_240 ?_
                        refine lv_aload_n hx hb dX9_goes_241 rfl (lv_at hl 3 rfl) ?_
                        refine lv_iload_n hx hb dX9_goes_242 rfl (lv_at hl 5 rfl) ?_
                        refine lv_iload hx hb dX9_goes_243 (lv_at hl 1 rfl) ?_
                        refine g_callVi (rest := [.int ((upd (upd (upd (u23.2.1 53) ((4 : Int32) + a1).toNatClampNeg (((u23.2.1 53) ((4 : Int32) + a1).toNatClampNeg) - a3)) a1.toNatClampNeg (if (if ((τ.2.1 53) a1.toNatClampNeg) = ((τ.2.1 50) ((10 : Int32) + a2).toNatClampNeg) then (1 : Int32) else (0 : Int32)) = 0 then ((u23.2.1 50) ((10 : Int32) + a2).toNatClampNeg) else ((u23.2.1 50) ((18 : Int32) + a2).toNatClampNeg))) ((8 : Int32) + a1).toNatClampNeg (((upd (upd (u23.2.1 53) ((4 : Int32) + a1).toNatClampNeg (((u23.2.1 53) ((4 : Int32) + a1).toNatClampNeg) - a3)) a1.toNatClampNeg (if (if ((τ.2.1 53) a1.toNatClampNeg) = ((τ.2.1 50) ((10 : Int32) + a2).toNatClampNeg) then (1 : Int32) else (0 : Int32)) = 0 then ((u23.2.1 50) ((10 : Int32) + a2).toNatClampNeg) else ((u23.2.1 50) ((18 : Int32) + a2).toNatClampNeg))) ((8 : Int32) + a1).toNatClampNeg) + (((u23.2.1 50) ((26 : Int32) + a2).toNatClampNeg) - a3))) (((14 : Int32) + ((6 : Int32) * a1)) + ((u23.2.1 50) ((42 : Int32) + a2).toNatClampNeg)).toNatClampNeg)]) E h (c_X9_paid l D cI cZ z ad σ (sa u23 53 (upd (upd (upd (u23.2.1 53) ((4 : Int32) + a1).toNatClampNeg (((u23.2.1 53) ((4 : Int32) + a1).toNatClampNeg) - a3)) a1.toNatClampNeg (if (if ((τ.2.1 53) a1.toNatClampNeg) = ((τ.2.1 50) ((10 : Int32) + a2).toNatClampNeg) then (1 : Int32) else (0 : Int32)) = 0 then ((u23.2.1 50) ((10 : Int32) + a2).toNatClampNeg) else ((u23.2.1 50) ((18 : Int32) + a2).toNatClampNeg))) ((8 : Int32) + a1).toNatClampNeg (((upd (upd (u23.2.1 53) ((4 : Int32) + a1).toNatClampNeg (((u23.2.1 53) ((4 : Int32) + a1).toNatClampNeg) - a3)) a1.toNatClampNeg (if (if ((τ.2.1 53) a1.toNatClampNeg) = ((τ.2.1 50) ((10 : Int32) + a2).toNatClampNeg) then (1 : Int32) else (0 : Int32)) = 0 then ((u23.2.1 50) ((10 : Int32) + a2).toNatClampNeg) else ((u23.2.1 50) ((18 : Int32) + a2).toNatClampNeg))) ((8 : Int32) + a1).toNatClampNeg) + (((u23.2.1 50) ((26 : Int32) + a2).toNatClampNeg) - a3)))) a2 (((u23.2.1 50) ((26 : Int32) + a2).toNatClampNeg) - a3) (show 0 ≤ a2.toInt ∧ a2.toInt < 8 from by omega) (show ∀ x : Int32, 0 ≤ x.toInt → x.toInt < 8 → 0 ≤ ((u23.2.1 50) ((42 : Int32) + x).toNatClampNeg).toInt ∧ ((u23.2.1 50) ((42 : Int32) + x).toNatClampNeg).toInt ≤ 5 from by rw [kA50]; exact hl_)) mw_963 cbX9_paid 48 rfl rfl ⟨by decide, by decide⟩ rfl rfl hl.1 (Nat.le_of_ble_eq_true rfl) ⟨Nat.zero_le _, Nat.zero_le _⟩ dX9_goes_245 (fun H locs h => ?_)
                        refine lv_isub hx hb dX9_goes_248 ?_
                        refine lv_istore (lv' := [(7, .int (((upd (upd (upd (u23.2.1 53) ((4 : Int32) + a1).toNatClampNeg (((u23.2.1 53) ((4 : Int32) + a1).toNatClampNeg) - a3)) a1.toNatClampNeg (if (if ((τ.2.1 53) a1.toNatClampNeg) = ((τ.2.1 50) ((10 : Int32) + a2).toNatClampNeg) then (1 : Int32) else (0 : Int32)) = 0 then ((u23.2.1 50) ((10 : Int32) + a2).toNatClampNeg) else ((u23.2.1 50) ((18 : Int32) + a2).toNatClampNeg))) ((8 : Int32) + a1).toNatClampNeg (((upd (upd (u23.2.1 53) ((4 : Int32) + a1).toNatClampNeg (((u23.2.1 53) ((4 : Int32) + a1).toNatClampNeg) - a3)) a1.toNatClampNeg (if (if ((τ.2.1 53) a1.toNatClampNeg) = ((τ.2.1 50) ((10 : Int32) + a2).toNatClampNeg) then (1 : Int32) else (0 : Int32)) = 0 then ((u23.2.1 50) ((10 : Int32) + a2).toNatClampNeg) else ((u23.2.1 50) ((18 : Int32) + a2).toNatClampNeg))) ((8 : Int32) + a1).toNatClampNeg) + (((u23.2.1 50) ((26 : Int32) + a2).toNatClampNeg) - a3))) (((14 : Int32) + ((6 : Int32) * a1)) + ((u23.2.1 50) ((42 : Int32) + a2).toNatClampNeg)).toNatClampNeg) - (F_X9_paid (sa u23 53 (upd (upd (upd (u23.2.1 53) ((4 : Int32) + a1).toNatClampNeg (((u23.2.1 53) ((4 : Int32) + a1).toNatClampNeg) - a3)) a1.toNatClampNeg (if (if ((τ.2.1 53) a1.toNatClampNeg) = ((τ.2.1 50) ((10 : Int32) + a2).toNatClampNeg) then (1 : Int32) else (0 : Int32)) = 0 then ((u23.2.1 50) ((10 : Int32) + a2).toNatClampNeg) else ((u23.2.1 50) ((18 : Int32) + a2).toNatClampNeg))) ((8 : Int32) + a1).toNatClampNeg (((upd (upd (u23.2.1 53) ((4 : Int32) + a1).toNatClampNeg (((u23.2.1 53) ((4 : Int32) + a1).toNatClampNeg) - a3)) a1.toNatClampNeg (if (if ((τ.2.1 53) a1.toNatClampNeg) = ((τ.2.1 50) ((10 : Int32) + a2).toNatClampNeg) then (1 : Int32) else (0 : Int32)) = 0 then ((u23.2.1 50) ((10 : Int32) + a2).toNatClampNeg) else ((u23.2.1 50) ((18 : Int32) + a2).toNatClampNeg))) ((8 : Int32) + a1).toNatClampNeg) + (((u23.2.1 50) ((26 : Int32) + a2).toNatClampNeg) - a3)))) a2 (((u23.2.1 50) ((26 : Int32) + a2).toNatClampNeg) - a3)))), (6, .int (((14 : Int32) + ((6 : Int32) * a1)) + ((u23.2.1 50) ((42 : Int32) + a2).toNatClampNeg))), (5, .int (((u23.2.1 50) ((26 : Int32) + a2).toNatClampNeg) - a3)), (4, .int (if ((τ.2.1 53) a1.toNatClampNeg) = ((τ.2.1 50) ((10 : Int32) + a2).toNatClampNeg) then (1 : Int32) else (0 : Int32))), (0, .ref (ad 48)), (1, .int a1), (2, .int a2), (3, .int a3)]) hx hb dX9_goes_249 hl (by decide) rfl (fun ls hl => ?_)
                        refine lv_aload_n hx hb dX9_goes_251 rfl (lv_at hl 4 rfl) ?_
                        refine g_get (v := .ref (ad 53)) E h 48 rfl rfl layX9 6 (by decide) rfl mw_825 rfl dX9_goes_252 ?_
                        refine lv_iload hx hb dX9_goes_255 (lv_at hl 1 rfl) ?_
                        refine lv_iload hx hb dX9_goes_257 (lv_at hl 0 rfl) ?_
                        refine lv_if_ge (tgt := 266) hx hb dX9_goes_259 (by decide) (fun c29 => ?_) (fun c29 => ?_)
                        · have ic29 : 0 ≤ (((upd (upd (upd (u23.2.1 53) ((4 : Int32) + a1).toNatClampNeg (((u23.2.1 53) ((4 : Int32) + a1).toNatClampNeg) - a3)) a1.toNatClampNeg (if (if ((τ.2.1 53) a1.toNatClampNeg) = ((τ.2.1 50) ((10 : Int32) + a2).toNatClampNeg) then (1 : Int32) else (0 : Int32)) = 0 then ((u23.2.1 50) ((10 : Int32) + a2).toNatClampNeg) else ((u23.2.1 50) ((18 : Int32) + a2).toNatClampNeg))) ((8 : Int32) + a1).toNatClampNeg (((upd (upd (u23.2.1 53) ((4 : Int32) + a1).toNatClampNeg (((u23.2.1 53) ((4 : Int32) + a1).toNatClampNeg) - a3)) a1.toNatClampNeg (if (if ((τ.2.1 53) a1.toNatClampNeg) = ((τ.2.1 50) ((10 : Int32) + a2).toNatClampNeg) then (1 : Int32) else (0 : Int32)) = 0 then ((u23.2.1 50) ((10 : Int32) + a2).toNatClampNeg) else ((u23.2.1 50) ((18 : Int32) + a2).toNatClampNeg))) ((8 : Int32) + a1).toNatClampNeg) + (((u23.2.1 50) ((26 : Int32) + a2).toNatClampNeg) - a3))) (((14 : Int32) + ((6 : Int32) * a1)) + ((u23.2.1 50) ((42 : Int32) + a2).toNatClampNeg)).toNatClampNeg) - (F_X9_paid (sa u23 53 (upd (upd (upd (u23.2.1 53) ((4 : Int32) + a1).toNatClampNeg (((u23.2.1 53) ((4 : Int32) + a1).toNatClampNeg) - a3)) a1.toNatClampNeg (if (if ((τ.2.1 53) a1.toNatClampNeg) = ((τ.2.1 50) ((10 : Int32) + a2).toNatClampNeg) then (1 : Int32) else (0 : Int32)) = 0 then ((u23.2.1 50) ((10 : Int32) + a2).toNatClampNeg) else ((u23.2.1 50) ((18 : Int32) + a2).toNatClampNeg))) ((8 : Int32) + a1).toNatClampNeg (((upd (upd (u23.2.1 53) ((4 : Int32) + a1).toNatClampNeg (((u23.2.1 53) ((4 : Int32) + a1).toNatClampNeg) - a3)) a1.toNatClampNeg (if (if ((τ.2.1 53) a1.toNatClampNeg) = ((τ.2.1 50) ((10 : Int32) + a2).toNatClampNeg) then (1 : Int32) else (0 : Int32)) = 0 then ((u23.2.1 50) ((10 : Int32) + a2).toNatClampNeg) else ((u23.2.1 50) ((18 : Int32) + a2).toNatClampNeg))) ((8 : Int32) + a1).toNatClampNeg) + (((u23.2.1 50) ((26 : Int32) + a2).toNatClampNeg) - a3)))) a2 (((u23.2.1 50) ((26 : Int32) + a2).toNatClampNeg) - a3))).toInt := i_le c29
                          have hF := (if_pos c29).symm.trans hF
                          refine lv_iload hx hb dX9_goes_266 (lv_at hl 0 rfl) ?_
                          refine g_iast (f := (upd (upd (upd (u23.2.1 53) ((4 : Int32) + a1).toNatClampNeg (((u23.2.1 53) ((4 : Int32) + a1).toNatClampNeg) - a3)) a1.toNatClampNeg (if (if ((τ.2.1 53) a1.toNatClampNeg) = ((τ.2.1 50) ((10 : Int32) + a2).toNatClampNeg) then (1 : Int32) else (0 : Int32)) = 0 then ((u23.2.1 50) ((10 : Int32) + a2).toNatClampNeg) else ((u23.2.1 50) ((18 : Int32) + a2).toNatClampNeg))) ((8 : Int32) + a1).toNatClampNeg (((upd (upd (u23.2.1 53) ((4 : Int32) + a1).toNatClampNeg (((u23.2.1 53) ((4 : Int32) + a1).toNatClampNeg) - a3)) a1.toNatClampNeg (if (if ((τ.2.1 53) a1.toNatClampNeg) = ((τ.2.1 50) ((10 : Int32) + a2).toNatClampNeg) then (1 : Int32) else (0 : Int32)) = 0 then ((u23.2.1 50) ((10 : Int32) + a2).toNatClampNeg) else ((u23.2.1 50) ((18 : Int32) + a2).toNatClampNeg))) ((8 : Int32) + a1).toNatClampNeg) + (((u23.2.1 50) ((26 : Int32) + a2).toNatClampNeg) - a3)))) (ws' := gws ad cI cZ σ (sa u23 53 (upd (upd (upd (upd (u23.2.1 53) ((4 : Int32) + a1).toNatClampNeg (((u23.2.1 53) ((4 : Int32) + a1).toNatClampNeg) - a3)) a1.toNatClampNeg (if (if ((τ.2.1 53) a1.toNatClampNeg) = ((τ.2.1 50) ((10 : Int32) + a2).toNatClampNeg) then (1 : Int32) else (0 : Int32)) = 0 then ((u23.2.1 50) ((10 : Int32) + a2).toNatClampNeg) else ((u23.2.1 50) ((18 : Int32) + a2).toNatClampNeg))) ((8 : Int32) + a1).toNatClampNeg (((upd (upd (u23.2.1 53) ((4 : Int32) + a1).toNatClampNeg (((u23.2.1 53) ((4 : Int32) + a1).toNatClampNeg) - a3)) a1.toNatClampNeg (if (if ((τ.2.1 53) a1.toNatClampNeg) = ((τ.2.1 50) ((10 : Int32) + a2).toNatClampNeg) then (1 : Int32) else (0 : Int32)) = 0 then ((u23.2.1 50) ((10 : Int32) + a2).toNatClampNeg) else ((u23.2.1 50) ((18 : Int32) + a2).toNatClampNeg))) ((8 : Int32) + a1).toNatClampNeg) + (((u23.2.1 50) ((26 : Int32) + a2).toNatClampNeg) - a3))) (((14 : Int32) + ((6 : Int32) * a1)) + ((u23.2.1 50) ((42 : Int32) + a2).toNatClampNeg)).toNatClampNeg (((upd (upd (upd (u23.2.1 53) ((4 : Int32) + a1).toNatClampNeg (((u23.2.1 53) ((4 : Int32) + a1).toNatClampNeg) - a3)) a1.toNatClampNeg (if (if ((τ.2.1 53) a1.toNatClampNeg) = ((τ.2.1 50) ((10 : Int32) + a2).toNatClampNeg) then (1 : Int32) else (0 : Int32)) = 0 then ((u23.2.1 50) ((10 : Int32) + a2).toNatClampNeg) else ((u23.2.1 50) ((18 : Int32) + a2).toNatClampNeg))) ((8 : Int32) + a1).toNatClampNeg (((upd (upd (u23.2.1 53) ((4 : Int32) + a1).toNatClampNeg (((u23.2.1 53) ((4 : Int32) + a1).toNatClampNeg) - a3)) a1.toNatClampNeg (if (if ((τ.2.1 53) a1.toNatClampNeg) = ((τ.2.1 50) ((10 : Int32) + a2).toNatClampNeg) then (1 : Int32) else (0 : Int32)) = 0 then ((u23.2.1 50) ((10 : Int32) + a2).toNatClampNeg) else ((u23.2.1 50) ((18 : Int32) + a2).toNatClampNeg))) ((8 : Int32) + a1).toNatClampNeg) + (((u23.2.1 50) ((26 : Int32) + a2).toNatClampNeg) - a3))) (((14 : Int32) + ((6 : Int32) * a1)) + ((u23.2.1 50) ((42 : Int32) + a2).toNatClampNeg)).toNatClampNeg) - (F_X9_paid (sa u23 53 (upd (upd (upd (u23.2.1 53) ((4 : Int32) + a1).toNatClampNeg (((u23.2.1 53) ((4 : Int32) + a1).toNatClampNeg) - a3)) a1.toNatClampNeg (if (if ((τ.2.1 53) a1.toNatClampNeg) = ((τ.2.1 50) ((10 : Int32) + a2).toNatClampNeg) then (1 : Int32) else (0 : Int32)) = 0 then ((u23.2.1 50) ((10 : Int32) + a2).toNatClampNeg) else ((u23.2.1 50) ((18 : Int32) + a2).toNatClampNeg))) ((8 : Int32) + a1).toNatClampNeg (((upd (upd (u23.2.1 53) ((4 : Int32) + a1).toNatClampNeg (((u23.2.1 53) ((4 : Int32) + a1).toNatClampNeg) - a3)) a1.toNatClampNeg (if (if ((τ.2.1 53) a1.toNatClampNeg) = ((τ.2.1 50) ((10 : Int32) + a2).toNatClampNeg) then (1 : Int32) else (0 : Int32)) = 0 then ((u23.2.1 50) ((10 : Int32) + a2).toNatClampNeg) else ((u23.2.1 50) ((18 : Int32) + a2).toNatClampNeg))) ((8 : Int32) + a1).toNatClampNeg) + (((u23.2.1 50) ((26 : Int32) + a2).toNatClampNeg) - a3)))) a2 (((u23.2.1 50) ((26 : Int32) + a2).toNatClampNeg) - a3)))))) E h 53 rfl (ix_of (oI_add (oI_add (oI_lit (x := 14) (a := 14) rfl) (oI_mul (oI_lit (x := 6) (a := 6) rfl) (oI_at a1))) (oI_at ((u23.2.1 50) ((42 : Int32) + a2).toNatClampNeg))) (by omega) (by decide)) ((ga_53 ad cI cZ σ (sa u23 53 (upd (upd (upd (u23.2.1 53) ((4 : Int32) + a1).toNatClampNeg (((u23.2.1 53) ((4 : Int32) + a1).toNatClampNeg) - a3)) a1.toNatClampNeg (if (if ((τ.2.1 53) a1.toNatClampNeg) = ((τ.2.1 50) ((10 : Int32) + a2).toNatClampNeg) then (1 : Int32) else (0 : Int32)) = 0 then ((u23.2.1 50) ((10 : Int32) + a2).toNatClampNeg) else ((u23.2.1 50) ((18 : Int32) + a2).toNatClampNeg))) ((8 : Int32) + a1).toNatClampNeg (((upd (upd (u23.2.1 53) ((4 : Int32) + a1).toNatClampNeg (((u23.2.1 53) ((4 : Int32) + a1).toNatClampNeg) - a3)) a1.toNatClampNeg (if (if ((τ.2.1 53) a1.toNatClampNeg) = ((τ.2.1 50) ((10 : Int32) + a2).toNatClampNeg) then (1 : Int32) else (0 : Int32)) = 0 then ((u23.2.1 50) ((10 : Int32) + a2).toNatClampNeg) else ((u23.2.1 50) ((18 : Int32) + a2).toNatClampNeg))) ((8 : Int32) + a1).toNatClampNeg) + (((u23.2.1 50) ((26 : Int32) + a2).toNatClampNeg) - a3)))) (upd (upd (upd (upd (u23.2.1 53) ((4 : Int32) + a1).toNatClampNeg (((u23.2.1 53) ((4 : Int32) + a1).toNatClampNeg) - a3)) a1.toNatClampNeg (if (if ((τ.2.1 53) a1.toNatClampNeg) = ((τ.2.1 50) ((10 : Int32) + a2).toNatClampNeg) then (1 : Int32) else (0 : Int32)) = 0 then ((u23.2.1 50) ((10 : Int32) + a2).toNatClampNeg) else ((u23.2.1 50) ((18 : Int32) + a2).toNatClampNeg))) ((8 : Int32) + a1).toNatClampNeg (((upd (upd (u23.2.1 53) ((4 : Int32) + a1).toNatClampNeg (((u23.2.1 53) ((4 : Int32) + a1).toNatClampNeg) - a3)) a1.toNatClampNeg (if (if ((τ.2.1 53) a1.toNatClampNeg) = ((τ.2.1 50) ((10 : Int32) + a2).toNatClampNeg) then (1 : Int32) else (0 : Int32)) = 0 then ((u23.2.1 50) ((10 : Int32) + a2).toNatClampNeg) else ((u23.2.1 50) ((18 : Int32) + a2).toNatClampNeg))) ((8 : Int32) + a1).toNatClampNeg) + (((u23.2.1 50) ((26 : Int32) + a2).toNatClampNeg) - a3))) (((14 : Int32) + ((6 : Int32) * a1)) + ((u23.2.1 50) ((42 : Int32) + a2).toNatClampNeg)).toNatClampNeg (((upd (upd (upd (u23.2.1 53) ((4 : Int32) + a1).toNatClampNeg (((u23.2.1 53) ((4 : Int32) + a1).toNatClampNeg) - a3)) a1.toNatClampNeg (if (if ((τ.2.1 53) a1.toNatClampNeg) = ((τ.2.1 50) ((10 : Int32) + a2).toNatClampNeg) then (1 : Int32) else (0 : Int32)) = 0 then ((u23.2.1 50) ((10 : Int32) + a2).toNatClampNeg) else ((u23.2.1 50) ((18 : Int32) + a2).toNatClampNeg))) ((8 : Int32) + a1).toNatClampNeg (((upd (upd (u23.2.1 53) ((4 : Int32) + a1).toNatClampNeg (((u23.2.1 53) ((4 : Int32) + a1).toNatClampNeg) - a3)) a1.toNatClampNeg (if (if ((τ.2.1 53) a1.toNatClampNeg) = ((τ.2.1 50) ((10 : Int32) + a2).toNatClampNeg) then (1 : Int32) else (0 : Int32)) = 0 then ((u23.2.1 50) ((10 : Int32) + a2).toNatClampNeg) else ((u23.2.1 50) ((18 : Int32) + a2).toNatClampNeg))) ((8 : Int32) + a1).toNatClampNeg) + (((u23.2.1 50) ((26 : Int32) + a2).toNatClampNeg) - a3))) (((14 : Int32) + ((6 : Int32) * a1)) + ((u23.2.1 50) ((42 : Int32) + a2).toNatClampNeg)).toNatClampNeg) - (F_X9_paid (sa u23 53 (upd (upd (upd (u23.2.1 53) ((4 : Int32) + a1).toNatClampNeg (((u23.2.1 53) ((4 : Int32) + a1).toNatClampNeg) - a3)) a1.toNatClampNeg (if (if ((τ.2.1 53) a1.toNatClampNeg) = ((τ.2.1 50) ((10 : Int32) + a2).toNatClampNeg) then (1 : Int32) else (0 : Int32)) = 0 then ((u23.2.1 50) ((10 : Int32) + a2).toNatClampNeg) else ((u23.2.1 50) ((18 : Int32) + a2).toNatClampNeg))) ((8 : Int32) + a1).toNatClampNeg (((upd (upd (u23.2.1 53) ((4 : Int32) + a1).toNatClampNeg (((u23.2.1 53) ((4 : Int32) + a1).toNatClampNeg) - a3)) a1.toNatClampNeg (if (if ((τ.2.1 53) a1.toNatClampNeg) = ((τ.2.1 50) ((10 : Int32) + a2).toNatClampNeg) then (1 : Int32) else (0 : Int32)) = 0 then ((u23.2.1 50) ((10 : Int32) + a2).toNatClampNeg) else ((u23.2.1 50) ((18 : Int32) + a2).toNatClampNeg))) ((8 : Int32) + a1).toNatClampNeg) + (((u23.2.1 50) ((26 : Int32) + a2).toNatClampNeg) - a3)))) a2 (((u23.2.1 50) ((26 : Int32) + a2).toNatClampNeg) - a3))))).trans (congrArg (fun u => gws ad cI cZ σ u) (sa_sa _ _ _ _))) dX9_goes_268 (fun H locs h => ?_)
                          refine lv_iconst (v := 1) hx hb dX9_goes_269 (by decide) ?_
                          exact g_iret E hr hlk h hQ (fst_of hF) (snd_of hF (fun u => gws ad cI cZ σ u)) dX9_goes_270
                        · have ic29 : (((upd (upd (upd (u23.2.1 53) ((4 : Int32) + a1).toNatClampNeg (((u23.2.1 53) ((4 : Int32) + a1).toNatClampNeg) - a3)) a1.toNatClampNeg (if (if ((τ.2.1 53) a1.toNatClampNeg) = ((τ.2.1 50) ((10 : Int32) + a2).toNatClampNeg) then (1 : Int32) else (0 : Int32)) = 0 then ((u23.2.1 50) ((10 : Int32) + a2).toNatClampNeg) else ((u23.2.1 50) ((18 : Int32) + a2).toNatClampNeg))) ((8 : Int32) + a1).toNatClampNeg (((upd (upd (u23.2.1 53) ((4 : Int32) + a1).toNatClampNeg (((u23.2.1 53) ((4 : Int32) + a1).toNatClampNeg) - a3)) a1.toNatClampNeg (if (if ((τ.2.1 53) a1.toNatClampNeg) = ((τ.2.1 50) ((10 : Int32) + a2).toNatClampNeg) then (1 : Int32) else (0 : Int32)) = 0 then ((u23.2.1 50) ((10 : Int32) + a2).toNatClampNeg) else ((u23.2.1 50) ((18 : Int32) + a2).toNatClampNeg))) ((8 : Int32) + a1).toNatClampNeg) + (((u23.2.1 50) ((26 : Int32) + a2).toNatClampNeg) - a3))) (((14 : Int32) + ((6 : Int32) * a1)) + ((u23.2.1 50) ((42 : Int32) + a2).toNatClampNeg)).toNatClampNeg) - (F_X9_paid (sa u23 53 (upd (upd (upd (u23.2.1 53) ((4 : Int32) + a1).toNatClampNeg (((u23.2.1 53) ((4 : Int32) + a1).toNatClampNeg) - a3)) a1.toNatClampNeg (if (if ((τ.2.1 53) a1.toNatClampNeg) = ((τ.2.1 50) ((10 : Int32) + a2).toNatClampNeg) then (1 : Int32) else (0 : Int32)) = 0 then ((u23.2.1 50) ((10 : Int32) + a2).toNatClampNeg) else ((u23.2.1 50) ((18 : Int32) + a2).toNatClampNeg))) ((8 : Int32) + a1).toNatClampNeg (((upd (upd (u23.2.1 53) ((4 : Int32) + a1).toNatClampNeg (((u23.2.1 53) ((4 : Int32) + a1).toNatClampNeg) - a3)) a1.toNatClampNeg (if (if ((τ.2.1 53) a1.toNatClampNeg) = ((τ.2.1 50) ((10 : Int32) + a2).toNatClampNeg) then (1 : Int32) else (0 : Int32)) = 0 then ((u23.2.1 50) ((10 : Int32) + a2).toNatClampNeg) else ((u23.2.1 50) ((18 : Int32) + a2).toNatClampNeg))) ((8 : Int32) + a1).toNatClampNeg) + (((u23.2.1 50) ((26 : Int32) + a2).toNatClampNeg) - a3)))) a2 (((u23.2.1 50) ((26 : Int32) + a2).toNatClampNeg) - a3))).toInt < 0 := i_nle c29
                          have hF := (if_neg c29).symm.trans hF
                          refine lv_iconst (v := 0) hx hb dX9_goes_262 (by decide) ?_
                          refine lv_goto (tgt := 268) hx hb dX9_goes_263 (by decide) ?_
                          refine g_iast (f := (upd (upd (upd (u23.2.1 53) ((4 : Int32) + a1).toNatClampNeg (((u23.2.1 53) ((4 : Int32) + a1).toNatClampNeg) - a3)) a1.toNatClampNeg (if (if ((τ.2.1 53) a1.toNatClampNeg) = ((τ.2.1 50) ((10 : Int32) + a2).toNatClampNeg) then (1 : Int32) else (0 : Int32)) = 0 then ((u23.2.1 50) ((10 : Int32) + a2).toNatClampNeg) else ((u23.2.1 50) ((18 : Int32) + a2).toNatClampNeg))) ((8 : Int32) + a1).toNatClampNeg (((upd (upd (u23.2.1 53) ((4 : Int32) + a1).toNatClampNeg (((u23.2.1 53) ((4 : Int32) + a1).toNatClampNeg) - a3)) a1.toNatClampNeg (if (if ((τ.2.1 53) a1.toNatClampNeg) = ((τ.2.1 50) ((10 : Int32) + a2).toNatClampNeg) then (1 : Int32) else (0 : Int32)) = 0 then ((u23.2.1 50) ((10 : Int32) + a2).toNatClampNeg) else ((u23.2.1 50) ((18 : Int32) + a2).toNatClampNeg))) ((8 : Int32) + a1).toNatClampNeg) + (((u23.2.1 50) ((26 : Int32) + a2).toNatClampNeg) - a3)))) (ws' := gws ad cI cZ σ (sa u23 53 (upd (upd (upd (upd (u23.2.1 53) ((4 : Int32) + a1).toNatClampNeg (((u23.2.1 53) ((4 : Int32) + a1).toNatClampNeg) - a3)) a1.toNatClampNeg (if (if ((τ.2.1 53) a1.toNatClampNeg) = ((τ.2.1 50) ((10 : Int32) + a2).toNatClampNeg) then (1 : Int32) else (0 : Int32)) = 0 then ((u23.2.1 50) ((10 : Int32) + a2).toNatClampNeg) else ((u23.2.1 50) ((18 : Int32) + a2).toNatClampNeg))) ((8 : Int32) + a1).toNatClampNeg (((upd (upd (u23.2.1 53) ((4 : Int32) + a1).toNatClampNeg (((u23.2.1 53) ((4 : Int32) + a1).toNatClampNeg) - a3)) a1.toNatClampNeg (if (if ((τ.2.1 53) a1.toNatClampNeg) = ((τ.2.1 50) ((10 : Int32) + a2).toNatClampNeg) then (1 : Int32) else (0 : Int32)) = 0 then ((u23.2.1 50) ((10 : Int32) + a2).toNatClampNeg) else ((u23.2.1 50) ((18 : Int32) + a2).toNatClampNeg))) ((8 : Int32) + a1).toNatClampNeg) + (((u23.2.1 50) ((26 : Int32) + a2).toNatClampNeg) - a3))) (((14 : Int32) + ((6 : Int32) * a1)) + ((u23.2.1 50) ((42 : Int32) + a2).toNatClampNeg)).toNatClampNeg (0 : Int32)))) E h 53 rfl (ix_of (oI_add (oI_add (oI_lit (x := 14) (a := 14) rfl) (oI_mul (oI_lit (x := 6) (a := 6) rfl) (oI_at a1))) (oI_at ((u23.2.1 50) ((42 : Int32) + a2).toNatClampNeg))) (by omega) (by decide)) ((ga_53 ad cI cZ σ (sa u23 53 (upd (upd (upd (u23.2.1 53) ((4 : Int32) + a1).toNatClampNeg (((u23.2.1 53) ((4 : Int32) + a1).toNatClampNeg) - a3)) a1.toNatClampNeg (if (if ((τ.2.1 53) a1.toNatClampNeg) = ((τ.2.1 50) ((10 : Int32) + a2).toNatClampNeg) then (1 : Int32) else (0 : Int32)) = 0 then ((u23.2.1 50) ((10 : Int32) + a2).toNatClampNeg) else ((u23.2.1 50) ((18 : Int32) + a2).toNatClampNeg))) ((8 : Int32) + a1).toNatClampNeg (((upd (upd (u23.2.1 53) ((4 : Int32) + a1).toNatClampNeg (((u23.2.1 53) ((4 : Int32) + a1).toNatClampNeg) - a3)) a1.toNatClampNeg (if (if ((τ.2.1 53) a1.toNatClampNeg) = ((τ.2.1 50) ((10 : Int32) + a2).toNatClampNeg) then (1 : Int32) else (0 : Int32)) = 0 then ((u23.2.1 50) ((10 : Int32) + a2).toNatClampNeg) else ((u23.2.1 50) ((18 : Int32) + a2).toNatClampNeg))) ((8 : Int32) + a1).toNatClampNeg) + (((u23.2.1 50) ((26 : Int32) + a2).toNatClampNeg) - a3)))) (upd (upd (upd (upd (u23.2.1 53) ((4 : Int32) + a1).toNatClampNeg (((u23.2.1 53) ((4 : Int32) + a1).toNatClampNeg) - a3)) a1.toNatClampNeg (if (if ((τ.2.1 53) a1.toNatClampNeg) = ((τ.2.1 50) ((10 : Int32) + a2).toNatClampNeg) then (1 : Int32) else (0 : Int32)) = 0 then ((u23.2.1 50) ((10 : Int32) + a2).toNatClampNeg) else ((u23.2.1 50) ((18 : Int32) + a2).toNatClampNeg))) ((8 : Int32) + a1).toNatClampNeg (((upd (upd (u23.2.1 53) ((4 : Int32) + a1).toNatClampNeg (((u23.2.1 53) ((4 : Int32) + a1).toNatClampNeg) - a3)) a1.toNatClampNeg (if (if ((τ.2.1 53) a1.toNatClampNeg) = ((τ.2.1 50) ((10 : Int32) + a2).toNatClampNeg) then (1 : Int32) else (0 : Int32)) = 0 then ((u23.2.1 50) ((10 : Int32) + a2).toNatClampNeg) else ((u23.2.1 50) ((18 : Int32) + a2).toNatClampNeg))) ((8 : Int32) + a1).toNatClampNeg) + (((u23.2.1 50) ((26 : Int32) + a2).toNatClampNeg) - a3))) (((14 : Int32) + ((6 : Int32) * a1)) + ((u23.2.1 50) ((42 : Int32) + a2).toNatClampNeg)).toNatClampNeg (0 : Int32))).trans (congrArg (fun u => gws ad cI cZ σ u) (sa_sa _ _ _ _))) dX9_goes_268 (fun H locs h => ?_)
                          refine lv_iconst (v := 1) hx hb dX9_goes_269 (by decide) ?_
                          exact g_iret E hr hlk h hQ (fst_of hF) (snd_of hF (fun u => gws ad cI cZ σ u)) dX9_goes_270
                      · have ic28 : ((u23.2.1 50) ((50 : Int32) + a1).toNatClampNeg).toInt < ((upd (upd (upd (u23.2.1 53) ((4 : Int32) + a1).toNatClampNeg (((u23.2.1 53) ((4 : Int32) + a1).toNatClampNeg) - a3)) a1.toNatClampNeg (if (if ((τ.2.1 53) a1.toNatClampNeg) = ((τ.2.1 50) ((10 : Int32) + a2).toNatClampNeg) then (1 : Int32) else (0 : Int32)) = 0 then ((u23.2.1 50) ((10 : Int32) + a2).toNatClampNeg) else ((u23.2.1 50) ((18 : Int32) + a2).toNatClampNeg))) ((8 : Int32) + a1).toNatClampNeg (((upd (upd (u23.2.1 53) ((4 : Int32) + a1).toNatClampNeg (((u23.2.1 53) ((4 : Int32) + a1).toNatClampNeg) - a3)) a1.toNatClampNeg (if (if ((τ.2.1 53) a1.toNatClampNeg) = ((τ.2.1 50) ((10 : Int32) + a2).toNatClampNeg) then (1 : Int32) else (0 : Int32)) = 0 then ((u23.2.1 50) ((10 : Int32) + a2).toNatClampNeg) else ((u23.2.1 50) ((18 : Int32) + a2).toNatClampNeg))) ((8 : Int32) + a1).toNatClampNeg) + (((u23.2.1 50) ((26 : Int32) + a2).toNatClampNeg) - a3))) ((8 : Int32) + a1).toNatClampNeg).toInt := i_nle c28
                        have hF := (if_neg c28).symm.trans hF
                        refine lv_aload_n hx hb dX9_goes_208 rfl (lv_at hl 2 rfl) ?_
                        refine lv_iload_n hx hb dX9_goes_209 rfl (lv_at hl 3 rfl) ?_
                        refine g_callVUv (F_X9_dies (sa u23 53 (upd (upd (upd (u23.2.1 53) ((4 : Int32) + a1).toNatClampNeg (((u23.2.1 53) ((4 : Int32) + a1).toNatClampNeg) - a3)) a1.toNatClampNeg (if (if ((τ.2.1 53) a1.toNatClampNeg) = ((τ.2.1 50) ((10 : Int32) + a2).toNatClampNeg) then (1 : Int32) else (0 : Int32)) = 0 then ((u23.2.1 50) ((10 : Int32) + a2).toNatClampNeg) else ((u23.2.1 50) ((18 : Int32) + a2).toNatClampNeg))) ((8 : Int32) + a1).toNatClampNeg (((upd (upd (u23.2.1 53) ((4 : Int32) + a1).toNatClampNeg (((u23.2.1 53) ((4 : Int32) + a1).toNatClampNeg) - a3)) a1.toNatClampNeg (if (if ((τ.2.1 53) a1.toNatClampNeg) = ((τ.2.1 50) ((10 : Int32) + a2).toNatClampNeg) then (1 : Int32) else (0 : Int32)) = 0 then ((u23.2.1 50) ((10 : Int32) + a2).toNatClampNeg) else ((u23.2.1 50) ((18 : Int32) + a2).toNatClampNeg))) ((8 : Int32) + a1).toNatClampNeg) + (((u23.2.1 50) ((26 : Int32) + a2).toNatClampNeg) - a3)))) a1) (fun u => gws ad cI cZ σ u) (rest := []) E h (c_X9_dies l D cI cZ z ad σ (sa u23 53 (upd (upd (upd (u23.2.1 53) ((4 : Int32) + a1).toNatClampNeg (((u23.2.1 53) ((4 : Int32) + a1).toNatClampNeg) - a3)) a1.toNatClampNeg (if (if ((τ.2.1 53) a1.toNatClampNeg) = ((τ.2.1 50) ((10 : Int32) + a2).toNatClampNeg) then (1 : Int32) else (0 : Int32)) = 0 then ((u23.2.1 50) ((10 : Int32) + a2).toNatClampNeg) else ((u23.2.1 50) ((18 : Int32) + a2).toNatClampNeg))) ((8 : Int32) + a1).toNatClampNeg (((upd (upd (u23.2.1 53) ((4 : Int32) + a1).toNatClampNeg (((u23.2.1 53) ((4 : Int32) + a1).toNatClampNeg) - a3)) a1.toNatClampNeg (if (if ((τ.2.1 53) a1.toNatClampNeg) = ((τ.2.1 50) ((10 : Int32) + a2).toNatClampNeg) then (1 : Int32) else (0 : Int32)) = 0 then ((u23.2.1 50) ((10 : Int32) + a2).toNatClampNeg) else ((u23.2.1 50) ((18 : Int32) + a2).toNatClampNeg))) ((8 : Int32) + a1).toNatClampNeg) + (((u23.2.1 50) ((26 : Int32) + a2).toNatClampNeg) - a3)))) a1 (show 0 ≤ a1.toInt ∧ a1.toInt < 4 from by omega)) mw_959 cbX9_dies 48 rfl rfl ⟨by decide, by decide⟩ rfl rfl hl.1 (Nat.le_of_ble_eq_true rfl) ⟨Nat.zero_le _, Nat.zero_le _⟩ dX9_goes_210 (fun u30 huu30 H locs h => ?_)
                        have hF : F_X9_goes_k210_31 τ a1 a2 a3 u23 u30 = (F_X9_goes τ a1 a2 a3) := by rw [← huu30]; exact hF
                        refine lv_iconst (v := 0) hx hb dX9_goes_213 (by decide) ?_
                        exact g_iret E hr hlk h hQ (fst_of hF) (snd_of hF (fun u => gws ad cI cZ σ u)) dX9_goes_214
                    · refine lv_if_eq (tgt := 163) hx hb dX9_goes_148 (by decide) (fun c27 => ?_) (fun c27 => ?_)
                      · have ic27 : (if ((τ.2.1 53) a1.toNatClampNeg) = ((τ.2.1 50) ((10 : Int32) + a2).toNatClampNeg) then (1 : Int32) else (0 : Int32)).toInt = 0 := i_eq c27
                        refine lv_aload_n hx hb dX9_goes_163 rfl (lv_at hl 2 rfl) ?_
                        refine g_get (v := .ref (ad 50)) E h 48 rfl rfl layX9 3 (by decide) rfl mw_822 rfl dX9_goes_164 ?_
                        refine lv_bipush (v := 10) hx hb dX9_goes_167 (by decide) ?_
                        refine lv_iload_n hx hb dX9_goes_169 rfl (lv_at hl 4 rfl) ?_
                        refine lv_iadd hx hb dX9_goes_170 ?_
                        refine g_iald (f := (u23.2.1 50)) E h 50 rfl (ix_of (oI_add (oI_lit (x := 10) (a := 10) rfl) (oI_at a2)) (by omega) (by decide)) dX9_goes_171 ?_
                        exact K26 _ _ _ ((if_pos c27).symm) h
                      · have ic27 : (if ((τ.2.1 53) a1.toNatClampNeg) = ((τ.2.1 50) ((10 : Int32) + a2).toNatClampNeg) then (1 : Int32) else (0 : Int32)).toInt ≠ 0 := i_ne c27
                        refine lv_aload_n hx hb dX9_goes_151 rfl (lv_at hl 2 rfl) ?_
                        refine g_get (v := .ref (ad 50)) E h 48 rfl rfl layX9 3 (by decide) rfl mw_822 rfl dX9_goes_152 ?_
                        refine lv_bipush (v := 18) hx hb dX9_goes_155 (by decide) ?_
                        refine lv_iload_n hx hb dX9_goes_157 rfl (lv_at hl 4 rfl) ?_
                        refine lv_iadd hx hb dX9_goes_158 ?_
                        refine g_iald (f := (u23.2.1 50)) E h 50 rfl (ix_of (oI_add (oI_lit (x := 18) (a := 18) rfl) (oI_at a2)) (by omega) (by decide)) dX9_goes_159 ?_
                        refine lv_goto (tgt := 172) hx hb dX9_goes_160 (by decide) ?_
                        exact K26 _ _ _ ((if_neg c27).symm) h
                  · have ic22 : ((τ.2.1 50) ((26 : Int32) + a2).toNatClampNeg).toInt < a3.toInt := i_nle c22
                    have hF := (if_neg c22).symm.trans hF
                    refine lv_bipush (v := (-2)) hx hb dX9_goes_109 (by decide) ?_
                    exact g_iret E hr hlk h hQ (fst_of hF) (snd_of hF (fun u => gws ad cI cZ σ u)) dX9_goes_111
        · refine lv_icmp_ne (tgt := 50) hx hb dX9_goes_43 (by decide) (fun c6 => ?_) (fun c6 => ?_)
          · have ic6 : ((τ.2.1 53) a1.toNatClampNeg).toInt ≠ ((τ.2.1 50) ((10 : Int32) + a2).toNatClampNeg).toInt := i_ne c6
            refine lv_iconst (v := 0) hx hb dX9_goes_50 (by decide) ?_
            exact K5 _ _ _ ((if_neg c6).symm) h
          · have ic6 : ((τ.2.1 53) a1.toNatClampNeg).toInt = ((τ.2.1 50) ((10 : Int32) + a2).toNatClampNeg).toInt := i_eq c6
            refine lv_iconst (v := 1) hx hb dX9_goes_46 (by decide) ?_
            refine lv_goto (tgt := 51) hx hb dX9_goes_47 (by decide) ?_
            exact K5 _ _ _ ((if_pos c6).symm) h
      · have ic3 : (F_X9_in a3 (0 : Int32) (9 : Int32)).toInt = 0 := i_eq c3
        have hF := (if_pos c3).symm.trans hF
        refine lv_iconst (v := (-1)) hx hb dX9_goes_26 (by decide) ?_
        exact g_iret E hr hlk h hQ (fst_of hF) (snd_of hF (fun u => gws ad cI cZ σ u)) dX9_goes_27

theorem and_tab : ∀ a, a < 64 → ∀ b, b < 6 → 0 ≤ ((nI a) &&& (((1 : Int32) <<< (nI b &&& 31)) ^^^ (-1))).toInt ∧ ((nI a) &&& (((1 : Int32) <<< (nI b &&& 31)) ^^^ (-1))).toInt < 64 := by decide +kernel
theorem and_in {s w : Int32} (hs : 0 ≤ s.toInt ∧ s.toInt < 64) (hw : 0 ≤ w.toInt ∧ w.toInt < 6) : vp_in (s &&& (((1 : Int32) <<< (w &&& 31)) ^^^ (-1))) 64 := by
  obtain ⟨a, ea, ha⟩ := nI_i hs.1
  obtain ⟨b, eb, hb⟩ := nI_i hw.1
  rw [vp_in_iff, ea, eb]
  exact and_tab a (by omega) b (by omega)

def F_X9_netOf_k25_5 (lf4 : Int32 → Int32 → Int32) (τ : St) (a1 : Int32) (x3_4 : Int32) (x2_4 : Int32) (v4 : Int32) : Int32 := (lf4 (x3_4 + (1 : Int32)) (x2_4 + v4))
def F_X9_netOf_L4 : Nat → St → Int32 → Int32 → Int32 → Int32
  | 0, _, _, _, _ => 0
  | n + 1, τ, a1, x3_4, x2_4 => (if ((τ.2.1 50) 0) ≤ x3_4 then x2_4 else (if (F_X9_has a1 x3_4) = 0 then (F_X9_netOf_L4  n τ a1 (x3_4 + (1 : Int32)) (x2_4 + (0 : Int32))) else (F_X9_netOf_k25_5 (fun y1 y2 => F_X9_netOf_L4  n τ a1 y1 y2) τ a1 x3_4 x2_4 (F_X9_net τ x3_4))))
def F_X9_netOf (τ : St) (a1 : Int32) : Int32 := (F_X9_netOf_L4  7 τ a1 (0 : Int32) (0 : Int32))
set_option maxHeartbeats 4000000 in
set_option maxRecDepth 20000 in
theorem c_X9_netOf (l : Launch) (D : va_G) (cI cZ : ClassId) (z : Nat) (ad : Nat → Nat) (σ τ : St) (a1 : Int32) (hw_ : 0 ≤ ((τ.2.1 50) 0).toInt ∧ ((τ.2.1 50) 0).toInt ≤ 6) : gM l yX9_netOf cX9_netOf 4 (some .int) 3 D cI cZ z (gws ad cI cZ σ τ) [.ref (ad 48), .int a1] (some (.int (F_X9_netOf τ a1))) (gws ad cI cZ σ τ) := by
  refine g_met (own := RX9) (by decide) rfl (Nat.le_of_ble_eq_true rfl) (fun p e s m below meth c ls Q E hr hlk h hl hQ => ?_)
  have hx := E.1
  have hb := E.2.1
  have hF : (F_X9_netOf τ a1) = (F_X9_netOf τ a1) := rfl
  have hl : lv_has ls 4 [(0, .ref (ad 48)), (1, .int a1)] := hl
  refine lv_iconst (v := 0) hx hb dX9_netOf_0 (by decide) ?_
  refine lv_istore_n (lv' := [(2, .int (0 : Int32)), (0, .ref (ad 48)), (1, .int a1)]) hx hb dX9_netOf_1 rfl hl (by decide) rfl (fun ls hl => ?_)
  refine lv_iconst (v := 0) hx hb dX9_netOf_2 (by decide) ?_
  refine lv_istore_n (lv' := [(3, .int (0 : Int32)), (2, .int (0 : Int32)), (0, .ref (ad 48)), (1, .int a1)]) hx hb dX9_netOf_3 rfl hl (by decide) rfl (fun ls hl => ?_)
  have L4 : ∀ (n4 : Nat) (x3_4 : Int32) (x2_4 : Int32) (H : Heap) (locs : List Loc) (ls : Array Slot), (0 ≤ x3_4.toInt ∧ x3_4.toInt ≤ 6 ∧ x3_4.toInt + n4 = 7) → F_X9_netOf_L4  n4 τ a1 x3_4 x2_4 = (F_X9_netOf τ a1) → gH D z s (gws ad cI cZ σ τ) H locs → lv_has ls 4 [(3, .int x3_4), (2, .int x2_4), (0, .ref (ad 48)), (1, .int a1)] → W p l e (rmH 3) s m ([.ref (ad 48), .int a1] : List Value).toArray below meth c H locs 0 0 Q (F0 m 4 ls []) := by
    clear hF h hl
    intro n4
    induction n4 with
    | zero =>
      intro x3_4 x2_4 H locs ls hI
      exact absurd hI (by omega)
    | succ n4 ih4 =>
      intro x3_4 x2_4 H locs ls hI4 hF h hl
      refine lv_iload_n hx hb dX9_netOf_4 rfl (lv_at hl 0 rfl) ?_
      refine lv_aload_n hx hb dX9_netOf_5 rfl (lv_at hl 2 rfl) ?_
      refine g_get (v := .ref (ad 50)) E h 48 rfl rfl layX9 3 (by decide) rfl mw_822 rfl dX9_netOf_6 ?_
      refine lv_iconst (v := 0) hx hb dX9_netOf_9 (by decide) ?_
      refine g_ialdk (f := (τ.2.1 50)) E h 50 rfl 0 rfl (ix_of (oI_lit (x := 0) (a := 0) rfl) (by omega) (by decide)) dX9_netOf_10 ?_
      refine lv_icmp_ge (tgt := 40) hx hb dX9_netOf_11 (by decide) (fun c2 => ?_) (fun c2 => ?_)
      · have ic2 : ((τ.2.1 50) 0).toInt ≤ x3_4.toInt := i_le c2
        have hF := (if_pos c2).symm.trans hF
        refine lv_iload_n hx hb dX9_netOf_40 rfl (lv_at hl 1 rfl) ?_
        exact g_iret E hr hlk h hQ hF rfl dX9_netOf_41
      · have ic2 : x3_4.toInt < ((τ.2.1 50) 0).toInt := i_nle c2
        have hF := (if_neg c2).symm.trans hF
        refine lv_iload_n hx hb dX9_netOf_14 rfl (lv_at hl 1 rfl) ?_
        refine lv_iload_n hx hb dX9_netOf_15 rfl (lv_at hl 3 rfl) ?_
        refine lv_iload_n hx hb dX9_netOf_16 rfl (lv_at hl 0 rfl) ?_
        refine g_callSi (rest := [.int x2_4]) E h (c_X9_has l D cI cZ z (gws ad cI cZ σ τ) a1 x3_4) mw_915 cbX9_has ⟨by decide, by decide⟩ rfl rfl hl.1 (Nat.le_of_ble_eq_true rfl) ⟨Nat.zero_le _, Nat.zero_le _⟩ dX9_netOf_17 (fun H locs h => ?_)
        refine lv_if_eq (tgt := 31) hx hb dX9_netOf_20 (by decide) (fun c3 => ?_) (fun c3 => ?_)
        · have ic3 : (F_X9_has a1 x3_4).toInt = 0 := i_eq c3
          have hF := (if_pos c3).symm.trans hF
          refine lv_iconst (v := 0) hx hb dX9_netOf_31 (by decide) ?_
          refine lv_iadd hx hb dX9_netOf_32 ?_
          refine lv_istore_n (lv' := [(2, .int (x2_4 + (0 : Int32))), (3, .int x3_4), (0, .ref (ad 48)), (1, .int a1)]) hx hb dX9_netOf_33 rfl hl (by decide) rfl (fun ls hl => ?_)
          refine lv_iinc (v := (x3_4 + (1 : Int32))) (lv' := [(3, .int (x3_4 + (1 : Int32))), (2, .int (x2_4 + (0 : Int32))), (0, .ref (ad 48)), (1, .int a1)]) hx hb dX9_netOf_34 hl (k := 1) rfl rfl (by decide) rfl (fun ls hl => ?_)
          refine lv_goto (tgt := 4) hx hb dX9_netOf_37 (by decide) ?_
          have e4_3 : (x3_4 + (1 : Int32)).toInt = _ := ti_of (oI_add (oI_at x3_4) (oI_lit (x := 1) (a := 1) rfl)) (by omega)
          exact ih4 (x3_4 + (1 : Int32)) (x2_4 + (0 : Int32)) _ _ ls ((show 0 ≤ (x3_4 + (1 : Int32)).toInt ∧ (x3_4 + (1 : Int32)).toInt ≤ 6 ∧ (x3_4 + (1 : Int32)).toInt + n4 = 7 from by omega)) hF h (lv_sub hl [0, 1, 2, 3] rfl)
        · have ic3 : (F_X9_has a1 x3_4).toInt ≠ 0 := i_ne c3
          have hF := (if_neg c3).symm.trans hF
          refine lv_aload_n hx hb dX9_netOf_23 rfl (lv_at hl 2 rfl) ?_
          refine lv_iload_n hx hb dX9_netOf_24 rfl (lv_at hl 0 rfl) ?_
          refine g_callVh (F_X9_net τ x3_4) (rest := [.int x2_4]) E h (c_X9_net l D cI cZ z ad σ τ x3_4 (show 0 ≤ x3_4.toInt ∧ x3_4.toInt < 6 from by omega)) mw_939 cbX9_net 48 rfl rfl ⟨by decide, by decide⟩ rfl rfl hl.1 (Nat.le_of_ble_eq_true rfl) ⟨Nat.zero_le _, Nat.zero_le _⟩ dX9_netOf_25 (fun v4 huv4 H locs h => ?_)
          have hF : F_X9_netOf_k25_5 (fun y1 y2 => F_X9_netOf_L4  n4 τ a1 y1 y2) τ a1 x3_4 x2_4 v4 = (F_X9_netOf τ a1) := by rw [← huv4]; exact hF
          refine lv_goto (tgt := 32) hx hb dX9_netOf_28 (by decide) ?_
          refine lv_iadd hx hb dX9_netOf_32 ?_
          refine lv_istore_n (lv' := [(2, .int (x2_4 + v4)), (3, .int x3_4), (0, .ref (ad 48)), (1, .int a1)]) hx hb dX9_netOf_33 rfl hl (by decide) rfl (fun ls hl => ?_)
          refine lv_iinc (v := (x3_4 + (1 : Int32))) (lv' := [(3, .int (x3_4 + (1 : Int32))), (2, .int (x2_4 + v4)), (0, .ref (ad 48)), (1, .int a1)]) hx hb dX9_netOf_34 hl (k := 1) rfl rfl (by decide) rfl (fun ls hl => ?_)
          refine lv_goto (tgt := 4) hx hb dX9_netOf_37 (by decide) ?_
          have e4_3 : (x3_4 + (1 : Int32)).toInt = _ := ti_of (oI_add (oI_at x3_4) (oI_lit (x := 1) (a := 1) rfl)) (by omega)
          exact ih4 (x3_4 + (1 : Int32)) (x2_4 + v4) _ _ ls ((show 0 ≤ (x3_4 + (1 : Int32)).toInt ∧ (x3_4 + (1 : Int32)).toInt ≤ 6 ∧ (x3_4 + (1 : Int32)).toInt + n4 = 7 from by omega)) hF h (lv_sub hl [0, 1, 2, 3] rfl)
  have q4_3 : (0 : Int32).toInt = 0 := rfl
  exact L4 7 (0 : Int32) (0 : Int32) _ _ ls ((show 0 ≤ (0 : Int32).toInt ∧ (0 : Int32).toInt ≤ 6 ∧ (0 : Int32).toInt + (7 : Nat) = 7 from by omega)) hF h (lv_sub hl [0, 1, 2, 3] rfl)

def F_X9_settle_k113_4 (lf13 : Int32 → St → (Int32 × St)) (τ : St) (x2_13 : Int32) (m13 : St) (v3 : Int32) : Int32 × St := ((v3 - ((m13.2.1 59) (((1 : Int32) <<< (((τ.2.1 50) 0) &&& 31)) - (1 : Int32)).toNatClampNeg)), m13)
def F_X9_settle_k93_9 (lf13 : Int32 → St → (Int32 × St)) (lf23 : Int32 → Int32 → (Int32 × St)) (τ : St) (x2_13 : Int32) (m13 : St) (x4_23 : Int32) (x3_23 : Int32) (v8 : Int32) : Int32 × St := (lf13 (x2_13 + (1 : Int32)) (sa m13 59 (upd (m13.2.1 59) x2_13.toNatClampNeg (x3_23 + (if v8 = 0 then (1 : Int32) else (0 : Int32))))))
def F_X9_settle_L23 (lf13 : Int32 → St → (Int32 × St)) : Nat → St → Int32 → St → Int32 → Int32 → Int32 × St
  | 0, τ, _, _, _, _ => (0, τ)
  | n + 1, τ, x2_13, m13, x4_23, x3_23 => (if ((m13.2.1 50) 0) ≤ x4_23 then (if x2_13 ≤ 0 then (lf13 (x2_13 + (1 : Int32)) (sa m13 59 (upd (m13.2.1 59) x2_13.toNatClampNeg (x3_23 + (0 : Int32))))) else (F_X9_settle_k93_9 lf13 (fun y1 y2 => F_X9_settle_L23 lf13 n τ x2_13 m13 y1 y2) τ x2_13 m13 x4_23 x3_23 (F_X9_netOf m13 x2_13))) else (F_X9_settle_L23 lf13 n τ x2_13 m13 (x4_23 + (1 : Int32)) (if (if (F_X9_has x2_13 x4_23) = 0 then (0 : Int32) else ((m13.2.1 59) (x2_13 &&& (((1 : Int32) <<< (x4_23 &&& 31)) ^^^ ((-1) : Int32))).toNatClampNeg)) ≤ x3_23 then x3_23 else (if (F_X9_has x2_13 x4_23) = 0 then (0 : Int32) else ((m13.2.1 59) (x2_13 &&& (((1 : Int32) <<< (x4_23 &&& 31)) ^^^ ((-1) : Int32))).toNatClampNeg)))))
def F_X9_settle_L13 : Nat → St → Int32 → St → Int32 × St
  | 0, _, _, m13 => (0, m13)
  | n + 1, τ, x2_13, m13 => (if (((1 : Int32) <<< (((τ.2.1 50) 0) &&& 31)) - (1 : Int32)) < x2_13 then (F_X9_settle_k113_4 (fun y1 y2 => F_X9_settle_L13  n τ y1 y2) τ x2_13 m13 (F_X9_ones (((1 : Int32) <<< (((τ.2.1 50) 0) &&& 31)) - (1 : Int32)))) else (F_X9_settle_L23 (fun y1 y2 => F_X9_settle_L13  n τ y1 y2) 7 τ x2_13 m13 (0 : Int32) (0 : Int32)))
def F_X9_settle (τ : St) : Int32 × St := (F_X9_settle_L13  65 τ (0 : Int32) τ)
abbrev I_X9_settle : List Nat := []
abbrev A_X9_settle : List Nat := [59]
theorem fr_F_X9_settle_k113_4 (lf13 : Int32 → St → (Int32 × St)) (τ : St) (x2_13 : Int32) (m13 : St) (v3 : Int32) (hlf13 : ∀ (y1 : Int32) (m : St), Fr I_X9_settle A_X9_settle false τ m → Fr I_X9_settle A_X9_settle false τ (lf13 y1 m).2) (hfr : Fr I_X9_settle A_X9_settle false τ (m13)) : Fr I_X9_settle A_X9_settle false τ (F_X9_settle_k113_4 lf13 τ x2_13 m13 v3).2 := hfr
theorem fr_F_X9_settle_k93_9 (lf13 : Int32 → St → (Int32 × St)) (lf23 : Int32 → Int32 → (Int32 × St)) (τ : St) (x2_13 : Int32) (m13 : St) (x4_23 : Int32) (x3_23 : Int32) (v8 : Int32) (hlf13 : ∀ (y1 : Int32) (m : St), Fr I_X9_settle A_X9_settle false τ m → Fr I_X9_settle A_X9_settle false τ (lf13 y1 m).2) (hlf23 : ∀ (y1 : Int32) (y2 : Int32), Fr I_X9_settle A_X9_settle false τ (lf23 y1 y2).2) (hfr : Fr I_X9_settle A_X9_settle false τ (m13)) : Fr I_X9_settle A_X9_settle false τ (F_X9_settle_k93_9 lf13 lf23 τ x2_13 m13 x4_23 x3_23 v8).2 := (hlf13 (x2_13 + (1 : Int32)) (sa m13 59 (upd (m13.2.1 59) x2_13.toNatClampNeg (x3_23 + (if v8 = 0 then (1 : Int32) else (0 : Int32))))) (Fr.sa (by decide) hfr))
theorem fr_F_X9_settle_L23_w (lf13 : Int32 → St → (Int32 × St)) (τ : St) (x2_13 : Int32) (m13 : St) (hlf13 : ∀ (y1 : Int32) (m : St), Fr I_X9_settle A_X9_settle false τ m → Fr I_X9_settle A_X9_settle false τ (lf13 y1 m).2) (hfr : Fr I_X9_settle A_X9_settle false τ (m13)) : ∀ (n : Nat) (x4_23 : Int32) (x3_23 : Int32), Fr I_X9_settle A_X9_settle false τ (F_X9_settle_L23 lf13 n τ x2_13 m13 x4_23 x3_23).2
  | 0, x4_23, x3_23 => Fr.rf
  | n + 1, x4_23, x3_23 => (fr_ite2 (fr_ite2 (hlf13 (x2_13 + (1 : Int32)) (sa m13 59 (upd (m13.2.1 59) x2_13.toNatClampNeg (x3_23 + (0 : Int32)))) (Fr.sa (by decide) hfr)) (fr_F_X9_settle_k93_9 lf13 (fun y1 y2 => F_X9_settle_L23 lf13 n τ x2_13 m13 y1 y2) τ x2_13 m13 x4_23 x3_23 (F_X9_netOf m13 x2_13) hlf13 (fun y1 y2 => fr_F_X9_settle_L23_w lf13 τ x2_13 m13 hlf13 hfr n y1 y2) hfr)) ((fun y1 y2 => fr_F_X9_settle_L23_w lf13 τ x2_13 m13 hlf13 hfr n y1 y2) (x4_23 + (1 : Int32)) (if (if (F_X9_has x2_13 x4_23) = 0 then (0 : Int32) else ((m13.2.1 59) (x2_13 &&& (((1 : Int32) <<< (x4_23 &&& 31)) ^^^ ((-1) : Int32))).toNatClampNeg)) ≤ x3_23 then x3_23 else (if (F_X9_has x2_13 x4_23) = 0 then (0 : Int32) else ((m13.2.1 59) (x2_13 &&& (((1 : Int32) <<< (x4_23 &&& 31)) ^^^ ((-1) : Int32))).toNatClampNeg))) ))
theorem fr_F_X9_settle_L23 (lf13 : Int32 → St → (Int32 × St)) (n : Nat) (τ : St) (x2_13 : Int32) (m13 : St) (x4_23 : Int32) (x3_23 : Int32) (hlf13 : ∀ (y1 : Int32) (m : St), Fr I_X9_settle A_X9_settle false τ m → Fr I_X9_settle A_X9_settle false τ (lf13 y1 m).2) (hfr : Fr I_X9_settle A_X9_settle false τ (m13)) : Fr I_X9_settle A_X9_settle false τ (F_X9_settle_L23 lf13 n τ x2_13 m13 x4_23 x3_23).2 := fr_F_X9_settle_L23_w lf13 τ x2_13 m13 hlf13 hfr n x4_23 x3_23
theorem fr_F_X9_settle_L13_w (τ : St) : ∀ (n : Nat) (x2_13 : Int32) (m13 : St), Fr I_X9_settle A_X9_settle false τ m13 → Fr I_X9_settle A_X9_settle false τ (F_X9_settle_L13  n τ x2_13 m13).2
  | 0, x2_13, m13, hfr => hfr
  | n + 1, x2_13, m13, hfr => (fr_ite2 (fr_F_X9_settle_k113_4 (fun y1 y2 => F_X9_settle_L13  n τ y1 y2) τ x2_13 m13 (F_X9_ones (((1 : Int32) <<< (((τ.2.1 50) 0) &&& 31)) - (1 : Int32))) (fun y1 y2 hy => fr_F_X9_settle_L13_w  τ  n y1 y2 hy) hfr) (fr_F_X9_settle_L23 (fun y1 y2 => F_X9_settle_L13  n τ y1 y2) 7 τ x2_13 m13 (0 : Int32) (0 : Int32) (fun y1 y2 hy => fr_F_X9_settle_L13_w  τ  n y1 y2 hy) hfr))
theorem fr_F_X9_settle_L13 (n : Nat) (τ : St) (x2_13 : Int32) (m13 : St) (hfr : Fr I_X9_settle A_X9_settle false τ (m13)) : Fr I_X9_settle A_X9_settle false τ (F_X9_settle_L13  n τ x2_13 m13).2 := fr_F_X9_settle_L13_w  τ  n x2_13 m13 hfr
theorem fr_F_X9_settle (τ : St) : Fr I_X9_settle A_X9_settle false τ (F_X9_settle τ).2 := (fr_F_X9_settle_L13  65 τ (0 : Int32) τ Fr.rf)
set_option maxHeartbeats 4000000 in
set_option maxRecDepth 20000 in
theorem c_X9_settle (l : Launch) (D : va_G) (cI cZ : ClassId) (z : Nat) (ad : Nat → Nat) (σ τ : St) (hw_ : 0 ≤ ((τ.2.1 50) 0).toInt ∧ ((τ.2.1 50) 0).toInt ≤ 6) : gM l yX9_settle cX9_settle 6 (some .int) 4 D cI cZ z (gws ad cI cZ σ τ) [.ref (ad 48)] (some (.int (F_X9_settle τ).1)) (gws ad cI cZ σ (F_X9_settle τ).2) := by
  refine g_met (own := RX9) (by decide) rfl (Nat.le_of_ble_eq_true rfl) (fun p e s m below meth c ls Q E hr hlk h hl hQ => ?_)
  have hx := E.1
  have hb := E.2.1
  have hF : (F_X9_settle τ) = (F_X9_settle τ) := rfl
  have hl : lv_has ls 6 [(0, .ref (ad 48))] := hl
  refine lv_iconst (v := 1) hx hb dX9_settle_0 (by decide) ?_
  refine lv_aload_n hx hb dX9_settle_1 rfl (lv_at hl 0 rfl) ?_
  refine g_get (v := .ref (ad 50)) E h 48 rfl rfl layX9 3 (by decide) rfl mw_822 rfl dX9_settle_2 ?_
  refine lv_iconst (v := 0) hx hb dX9_settle_5 (by decide) ?_
  refine g_ialdk (f := (τ.2.1 50)) E h 50 rfl 0 rfl (ix_of (oI_lit (x := 0) (a := 0) rfl) (by omega) (by decide)) dX9_settle_6 ?_
  refine lv_ishl hx hb dX9_settle_7 ?_
  refine lv_iconst (v := 1) hx hb dX9_settle_8 (by decide) ?_
  refine lv_isub hx hb dX9_settle_9 ?_
  refine lv_istore_n (lv' := [(1, .int (((1 : Int32) <<< (((τ.2.1 50) 0) &&& 31)) - (1 : Int32))), (0, .ref (ad 48))]) hx hb dX9_settle_10 rfl hl (by decide) rfl (fun ls hl => ?_)
  have hsh := sh1_rng hw_
  have hall : (((1 : Int32) <<< (((τ.2.1 50) 0) &&& 31)) - (1 : Int32)).toInt = _ := ti_of (oI_sub (oI_at ((1 : Int32) <<< ((τ.2.1 50 0) &&& 31))) (oI_lit (x := 1) (a := 1) rfl)) (by omega)
  refine lv_iconst (v := 0) hx hb dX9_settle_11 (by decide) ?_
  refine lv_istore_n (lv' := [(2, .int (0 : Int32)), (1, .int (((1 : Int32) <<< (((τ.2.1 50) 0) &&& 31)) - (1 : Int32))), (0, .ref (ad 48))]) hx hb dX9_settle_12 rfl hl (by decide) rfl (fun ls hl => ?_)
  have L13 : ∀ (n13 : Nat) (x2_13 : Int32) (m13 : St) (H : Heap) (locs : List Loc) (ls : Array Slot), (0 ≤ x2_13.toInt ∧ x2_13.toInt ≤ 64 ∧ x2_13.toInt + n13 = 65 ∧ 0 ≤ ((m13.2.1 50) 0).toInt ∧ ((m13.2.1 50) 0).toInt ≤ 6) → F_X9_settle_L13  n13 τ x2_13 m13 = (F_X9_settle τ) → gH D z s (gws ad cI cZ σ m13) H locs → lv_has ls 6 [(2, .int x2_13), (1, .int (((1 : Int32) <<< (((τ.2.1 50) 0) &&& 31)) - (1 : Int32))), (0, .ref (ad 48))] → W p l e (rmH 4) s m ([.ref (ad 48)] : List Value).toArray below meth c H locs 0 0 Q (F0 m 13 ls []) := by
    clear hF h hl
    intro n13
    induction n13 with
    | zero =>
      intro x2_13 m13 H locs ls hI
      exact absurd hI (by omega)
    | succ n13 ih13 =>
      intro x2_13 m13 H locs ls hI13 hF h hl
      refine lv_iload_n hx hb dX9_settle_13 rfl (lv_at hl 0 rfl) ?_
      refine lv_iload_n hx hb dX9_settle_14 rfl (lv_at hl 1 rfl) ?_
      refine lv_icmp_gt (tgt := 112) hx hb dX9_settle_15 (by decide) (fun c2 => ?_) (fun c2 => ?_)
      · have ic2 : (((1 : Int32) <<< (((τ.2.1 50) 0) &&& 31)) - (1 : Int32)).toInt < x2_13.toInt := i_lt c2
        have hF := (if_pos c2).symm.trans hF
        refine lv_iload_n hx hb dX9_settle_112 rfl (lv_at hl 1 rfl) ?_
        refine g_callSh (F_X9_ones (((1 : Int32) <<< (((τ.2.1 50) 0) &&& 31)) - (1 : Int32))) (rest := []) E h (c_X9_ones l D cI cZ z (gws ad cI cZ σ m13) (((1 : Int32) <<< (((τ.2.1 50) 0) &&& 31)) - (1 : Int32))) mw_1015 cbX9_ones ⟨by decide, by decide⟩ rfl rfl hl.1 (Nat.le_of_ble_eq_true rfl) ⟨Nat.zero_le _, Nat.zero_le _⟩ dX9_settle_113 (fun v3 huv3 H locs h => ?_)
        have hF : F_X9_settle_k113_4 (fun y1 y2 => F_X9_settle_L13  n13 τ y1 y2) τ x2_13 m13 v3 = (F_X9_settle τ) := by rw [← huv3]; exact hF
        refine lv_aload_n hx hb dX9_settle_116 rfl (lv_at hl 2 rfl) ?_
        refine g_get (v := .ref (ad 59)) E h 48 rfl rfl layX9 19 (by decide) rfl mw_838 rfl dX9_settle_117 ?_
        refine lv_iload_n hx hb dX9_settle_120 rfl (lv_at hl 1 rfl) ?_
        refine g_iald (f := (m13.2.1 59)) E h 59 rfl (ix_of (oI_sub (oI_at ((1 : Int32) <<< (((τ.2.1 50) 0) &&& 31))) (oI_lit (x := 1) (a := 1) rfl)) (by omega) (by decide)) dX9_settle_121 ?_
        refine lv_isub hx hb dX9_settle_122 ?_
        exact g_iret E hr hlk h hQ (fst_of hF) (snd_of hF (fun u => gws ad cI cZ σ u)) dX9_settle_123
      · have ic2 : x2_13.toInt ≤ (((1 : Int32) <<< (((τ.2.1 50) 0) &&& 31)) - (1 : Int32)).toInt := i_nlt c2
        have hF := (if_neg c2).symm.trans hF
        refine lv_iconst (v := 0) hx hb dX9_settle_18 (by decide) ?_
        refine lv_istore_n (lv' := [(3, .int (0 : Int32)), (2, .int x2_13), (1, .int (((1 : Int32) <<< (((τ.2.1 50) 0) &&& 31)) - (1 : Int32))), (0, .ref (ad 48))]) hx hb dX9_settle_19 rfl hl (by decide) rfl (fun ls hl => ?_)
        refine lv_iconst (v := 0) hx hb dX9_settle_20 (by decide) ?_
        refine lv_istore (lv' := [(4, .int (0 : Int32)), (3, .int (0 : Int32)), (2, .int x2_13), (1, .int (((1 : Int32) <<< (((τ.2.1 50) 0) &&& 31)) - (1 : Int32))), (0, .ref (ad 48))]) hx hb dX9_settle_21 hl (by decide) rfl (fun ls hl => ?_)
        have L23 : ∀ (n23 : Nat) (x4_23 : Int32) (x3_23 : Int32) (H : Heap) (locs : List Loc) (ls : Array Slot), (0 ≤ x4_23.toInt ∧ x4_23.toInt ≤ 6 ∧ x4_23.toInt + n23 = 7) → F_X9_settle_L23 (fun y1 y2 => F_X9_settle_L13  n13 τ y1 y2) n23 τ x2_13 m13 x4_23 x3_23 = (F_X9_settle τ) → gH D z s (gws ad cI cZ σ m13) H locs → lv_has ls 6 [(4, .int x4_23), (3, .int x3_23), (2, .int x2_13), (1, .int (((1 : Int32) <<< (((τ.2.1 50) 0) &&& 31)) - (1 : Int32))), (0, .ref (ad 48))] → W p l e (rmH 4) s m ([.ref (ad 48)] : List Value).toArray below meth c H locs 0 0 Q (F0 m 23 ls []) := by
          clear hF h hl
          intro n23
          induction n23 with
          | zero =>
            intro x4_23 x3_23 H locs ls hI
            exact absurd hI (by omega)
          | succ n23 ih23 =>
            intro x4_23 x3_23 H locs ls hI23 hF h hl
            refine lv_iload hx hb dX9_settle_23 (lv_at hl 0 rfl) ?_
            refine lv_aload_n hx hb dX9_settle_25 rfl (lv_at hl 4 rfl) ?_
            refine g_get (v := .ref (ad 50)) E h 48 rfl rfl layX9 3 (by decide) rfl mw_822 rfl dX9_settle_26 ?_
            refine lv_iconst (v := 0) hx hb dX9_settle_29 (by decide) ?_
            refine g_ialdk (f := (m13.2.1 50)) E h 50 rfl 0 rfl (ix_of (oI_lit (x := 0) (a := 0) rfl) (by omega) (by decide)) dX9_settle_30 ?_
            refine lv_icmp_ge (tgt := 81) hx hb dX9_settle_31 (by decide) (fun c6 => ?_) (fun c6 => ?_)
            · have ic6 : ((m13.2.1 50) 0).toInt ≤ x4_23.toInt := i_le c6
              have hF := (if_pos c6).symm.trans hF
              refine lv_aload_n hx hb dX9_settle_81 rfl (lv_at hl 4 rfl) ?_
              refine g_get (v := .ref (ad 59)) E h 48 rfl rfl layX9 19 (by decide) rfl mw_838 rfl dX9_settle_82 ?_
              refine lv_iload_n hx hb dX9_settle_85 rfl (lv_at hl 2 rfl) ?_
              refine lv_iload_n hx hb dX9_settle_86 rfl (lv_at hl 1 rfl) ?_
              refine lv_iload_n hx hb dX9_settle_87 rfl (lv_at hl 2 rfl) ?_
              refine lv_if_le (tgt := 103) hx hb dX9_settle_88 (by decide) (fun c7 => ?_) (fun c7 => ?_)
              · have ic7 : x2_13.toInt ≤ 0 := i_le c7
                have hF := (if_pos c7).symm.trans hF
                refine lv_iconst (v := 0) hx hb dX9_settle_103 (by decide) ?_
                refine lv_iadd hx hb dX9_settle_104 ?_
                refine g_iast (f := (m13.2.1 59)) (ws' := gws ad cI cZ σ (sa m13 59 (upd (m13.2.1 59) x2_13.toNatClampNeg (x3_23 + (0 : Int32))))) E h 59 rfl (ix_of (oI_at x2_13) (by omega) (by decide)) (ga_59 ad cI cZ σ m13 (upd (m13.2.1 59) x2_13.toNatClampNeg (x3_23 + (0 : Int32)))) dX9_settle_105 (fun H locs h => ?_)
                refine lv_iinc (v := (x2_13 + (1 : Int32))) (lv' := [(2, .int (x2_13 + (1 : Int32))), (4, .int x4_23), (3, .int x3_23), (1, .int (((1 : Int32) <<< (((τ.2.1 50) 0) &&& 31)) - (1 : Int32))), (0, .ref (ad 48))]) hx hb dX9_settle_106 hl (k := 2) rfl rfl (by decide) rfl (fun ls hl => ?_)
                refine lv_goto (tgt := 13) hx hb dX9_settle_109 (by decide) ?_
                have e13_2 : (x2_13 + (1 : Int32)).toInt = _ := ti_of (oI_add (oI_at x2_13) (oI_lit (x := 1) (a := 1) rfl)) (by omega)
                exact ih13 (x2_13 + (1 : Int32)) (sa m13 59 (upd (m13.2.1 59) x2_13.toNatClampNeg (x3_23 + (0 : Int32)))) _ _ ls ((show 0 ≤ (x2_13 + (1 : Int32)).toInt ∧ (x2_13 + (1 : Int32)).toInt ≤ 64 ∧ (x2_13 + (1 : Int32)).toInt + n13 = 65 ∧ 0 ≤ ((m13.2.1 50) 0).toInt ∧ ((m13.2.1 50) 0).toInt ≤ 6 from by omega)) hF h (lv_sub hl [0, 3, 4] rfl)
              · have ic7 : 0 < x2_13.toInt := i_nle c7
                have hF := (if_neg c7).symm.trans hF
                refine lv_aload_n hx hb dX9_settle_91 rfl (lv_at hl 4 rfl) ?_
                refine lv_iload_n hx hb dX9_settle_92 rfl (lv_at hl 2 rfl) ?_
                refine g_callVh (F_X9_netOf m13 x2_13) (rest := [.int x3_23, .int x2_13, .ref (ad 59)]) E h (c_X9_netOf l D cI cZ z ad σ m13 x2_13 (show 0 ≤ ((m13.2.1 50) 0).toInt ∧ ((m13.2.1 50) 0).toInt ≤ 6 from by omega)) mw_1011 cbX9_netOf 48 rfl rfl ⟨by decide, by decide⟩ rfl rfl hl.1 (Nat.le_of_ble_eq_true rfl) ⟨Nat.zero_le _, Nat.zero_le _⟩ dX9_settle_93 (fun v8 huv8 H locs h => ?_)
                have hF : F_X9_settle_k93_9 (fun y1 y2 => F_X9_settle_L13  n13 τ y1 y2) (fun y1 y2 => F_X9_settle_L23 (fun y1 y2 => F_X9_settle_L13  n13 τ y1 y2) n23 τ x2_13 m13 y1 y2) τ x2_13 m13 x4_23 x3_23 v8 = (F_X9_settle τ) := by rw [← huv8]; exact hF
                refine g_dia (D := D) (z := z) (ws := gws ad cI cZ σ m13) (rest := [.int x3_23, .int x2_13, .ref (ad 59)]) 104 (if v8 = 0 then (1 : Int32) else (0 : Int32)) (fun H locs h => ?_) (fun K11 => ?_)
                · refine lv_iadd hx hb dX9_settle_104 ?_
                  refine g_iast (f := (m13.2.1 59)) (ws' := gws ad cI cZ σ (sa m13 59 (upd (m13.2.1 59) x2_13.toNatClampNeg (x3_23 + (if v8 = 0 then (1 : Int32) else (0 : Int32)))))) E h 59 rfl (ix_of (oI_at x2_13) (by omega) (by decide)) (ga_59 ad cI cZ σ m13 (upd (m13.2.1 59) x2_13.toNatClampNeg (x3_23 + (if v8 = 0 then (1 : Int32) else (0 : Int32))))) dX9_settle_105 (fun H locs h => ?_)
                  refine lv_iinc (v := (x2_13 + (1 : Int32))) (lv' := [(2, .int (x2_13 + (1 : Int32))), (4, .int x4_23), (3, .int x3_23), (1, .int (((1 : Int32) <<< (((τ.2.1 50) 0) &&& 31)) - (1 : Int32))), (0, .ref (ad 48))]) hx hb dX9_settle_106 hl (k := 2) rfl rfl (by decide) rfl (fun ls hl => ?_)
                  refine lv_goto (tgt := 13) hx hb dX9_settle_109 (by decide) ?_
                  have e13_2 : (x2_13 + (1 : Int32)).toInt = _ := ti_of (oI_add (oI_at x2_13) (oI_lit (x := 1) (a := 1) rfl)) (by omega)
                  exact ih13 (x2_13 + (1 : Int32)) (sa m13 59 (upd (m13.2.1 59) x2_13.toNatClampNeg (x3_23 + (if v8 = 0 then (1 : Int32) else (0 : Int32))))) _ _ ls ((show 0 ≤ (x2_13 + (1 : Int32)).toInt ∧ (x2_13 + (1 : Int32)).toInt ≤ 64 ∧ (x2_13 + (1 : Int32)).toInt + n13 = 65 ∧ 0 ≤ ((m13.2.1 50) 0).toInt ∧ ((m13.2.1 50) 0).toInt ≤ 6 from by omega)) hF h (lv_sub hl [0, 3, 4] rfl)
                · refine lv_if_ne (tgt := 103) hx hb dX9_settle_96 (by decide) (fun c12 => ?_) (fun c12 => ?_)
                  · have ic12 : v8.toInt ≠ 0 := i_ne c12
                    refine lv_iconst (v := 0) hx hb dX9_settle_103 (by decide) ?_
                    exact K11 _ _ _ ((if_neg c12).symm) h
                  · have ic12 : v8.toInt = 0 := i_eq c12
                    refine lv_iconst (v := 1) hx hb dX9_settle_99 (by decide) ?_
                    refine lv_goto (tgt := 104) hx hb dX9_settle_100 (by decide) ?_
                    exact K11 _ _ _ ((if_pos c12).symm) h
            · have ic6 : x4_23.toInt < ((m13.2.1 50) 0).toInt := i_nle c6
              have hF := (if_neg c6).symm.trans hF
              refine lv_iload_n hx hb dX9_settle_34 rfl (lv_at hl 2 rfl) ?_
              refine lv_iload hx hb dX9_settle_35 (lv_at hl 0 rfl) ?_
              refine g_callSi (rest := []) E h (c_X9_has l D cI cZ z (gws ad cI cZ σ m13) x2_13 x4_23) mw_915 cbX9_has ⟨by decide, by decide⟩ rfl rfl hl.1 (Nat.le_of_ble_eq_true rfl) ⟨Nat.zero_le _, Nat.zero_le _⟩ dX9_settle_37 (fun H locs h => ?_)
              refine g_dia (D := D) (z := z) (ws := gws ad cI cZ σ m13) (rest := []) 60 (if (F_X9_has x2_13 x4_23) = 0 then (0 : Int32) else ((m13.2.1 59) (x2_13 &&& (((1 : Int32) <<< (x4_23 &&& 31)) ^^^ ((-1) : Int32))).toNatClampNeg)) (fun H locs h => ?_) (fun K14 => ?_)
              · refine lv_istore (lv' := [(5, .int (if (F_X9_has x2_13 x4_23) = 0 then (0 : Int32) else ((m13.2.1 59) (x2_13 &&& (((1 : Int32) <<< (x4_23 &&& 31)) ^^^ ((-1) : Int32))).toNatClampNeg))), (4, .int x4_23), (3, .int x3_23), (2, .int x2_13), (1, .int (((1 : Int32) <<< (((τ.2.1 50) 0) &&& 31)) - (1 : Int32))), (0, .ref (ad 48))]) hx hb dX9_settle_60 hl (by decide) rfl (fun ls hl => ?_)
                refine lv_iload hx hb dX9_settle_62 (lv_at hl 0 rfl) ?_
                refine lv_iload_n hx hb dX9_settle_64 rfl (lv_at hl 2 rfl) ?_
                refine g_dia (D := D) (z := z) (ws := gws ad cI cZ σ m13) (rest := []) 74 (if (if (F_X9_has x2_13 x4_23) = 0 then (0 : Int32) else ((m13.2.1 59) (x2_13 &&& (((1 : Int32) <<< (x4_23 &&& 31)) ^^^ ((-1) : Int32))).toNatClampNeg)) ≤ x3_23 then x3_23 else (if (F_X9_has x2_13 x4_23) = 0 then (0 : Int32) else ((m13.2.1 59) (x2_13 &&& (((1 : Int32) <<< (x4_23 &&& 31)) ^^^ ((-1) : Int32))).toNatClampNeg))) (fun H locs h => ?_) (fun K17 => ?_)
                · refine lv_istore_n (lv' := [(3, .int (if (if (F_X9_has x2_13 x4_23) = 0 then (0 : Int32) else ((m13.2.1 59) (x2_13 &&& (((1 : Int32) <<< (x4_23 &&& 31)) ^^^ ((-1) : Int32))).toNatClampNeg)) ≤ x3_23 then x3_23 else (if (F_X9_has x2_13 x4_23) = 0 then (0 : Int32) else ((m13.2.1 59) (x2_13 &&& (((1 : Int32) <<< (x4_23 &&& 31)) ^^^ ((-1) : Int32))).toNatClampNeg)))), (5, .int (if (F_X9_has x2_13 x4_23) = 0 then (0 : Int32) else ((m13.2.1 59) (x2_13 &&& (((1 : Int32) <<< (x4_23 &&& 31)) ^^^ ((-1) : Int32))).toNatClampNeg))), (4, .int x4_23), (2, .int x2_13), (1, .int (((1 : Int32) <<< (((τ.2.1 50) 0) &&& 31)) - (1 : Int32))), (0, .ref (ad 48))]) hx hb dX9_settle_74 rfl hl (by decide) rfl (fun ls hl => ?_)
                  refine lv_iinc (v := (x4_23 + (1 : Int32))) (lv' := [(4, .int (x4_23 + (1 : Int32))), (3, .int (if (if (F_X9_has x2_13 x4_23) = 0 then (0 : Int32) else ((m13.2.1 59) (x2_13 &&& (((1 : Int32) <<< (x4_23 &&& 31)) ^^^ ((-1) : Int32))).toNatClampNeg)) ≤ x3_23 then x3_23 else (if (F_X9_has x2_13 x4_23) = 0 then (0 : Int32) else ((m13.2.1 59) (x2_13 &&& (((1 : Int32) <<< (x4_23 &&& 31)) ^^^ ((-1) : Int32))).toNatClampNeg)))), (5, .int (if (F_X9_has x2_13 x4_23) = 0 then (0 : Int32) else ((m13.2.1 59) (x2_13 &&& (((1 : Int32) <<< (x4_23 &&& 31)) ^^^ ((-1) : Int32))).toNatClampNeg))), (2, .int x2_13), (1, .int (((1 : Int32) <<< (((τ.2.1 50) 0) &&& 31)) - (1 : Int32))), (0, .ref (ad 48))]) hx hb dX9_settle_75 hl (k := 2) rfl rfl (by decide) rfl (fun ls hl => ?_)
                  refine lv_goto (tgt := 23) hx hb dX9_settle_78 (by decide) ?_
                  have e23_4 : (x4_23 + (1 : Int32)).toInt = _ := ti_of (oI_add (oI_at x4_23) (oI_lit (x := 1) (a := 1) rfl)) (by omega)
                  exact ih23 (x4_23 + (1 : Int32)) (if (if (F_X9_has x2_13 x4_23) = 0 then (0 : Int32) else ((m13.2.1 59) (x2_13 &&& (((1 : Int32) <<< (x4_23 &&& 31)) ^^^ ((-1) : Int32))).toNatClampNeg)) ≤ x3_23 then x3_23 else (if (F_X9_has x2_13 x4_23) = 0 then (0 : Int32) else ((m13.2.1 59) (x2_13 &&& (((1 : Int32) <<< (x4_23 &&& 31)) ^^^ ((-1) : Int32))).toNatClampNeg))) _ _ ls ((show 0 ≤ (x4_23 + (1 : Int32)).toInt ∧ (x4_23 + (1 : Int32)).toInt ≤ 6 ∧ (x4_23 + (1 : Int32)).toInt + n23 = 7 from by omega)) hF h (lv_sub hl [0, 1, 3, 4, 5] rfl)
                · refine lv_icmp_le (tgt := 73) hx hb dX9_settle_65 (by decide) (fun c18 => ?_) (fun c18 => ?_)
                  · have ic18 : (if (F_X9_has x2_13 x4_23) = 0 then (0 : Int32) else ((m13.2.1 59) (x2_13 &&& (((1 : Int32) <<< (x4_23 &&& 31)) ^^^ ((-1) : Int32))).toNatClampNeg)).toInt ≤ x3_23.toInt := i_le c18
                    refine lv_iload_n hx hb dX9_settle_73 rfl (lv_at hl 2 rfl) ?_
                    exact K17 _ _ _ ((if_pos c18).symm) h
                  · have ic18 : x3_23.toInt < (if (F_X9_has x2_13 x4_23) = 0 then (0 : Int32) else ((m13.2.1 59) (x2_13 &&& (((1 : Int32) <<< (x4_23 &&& 31)) ^^^ ((-1) : Int32))).toNatClampNeg)).toInt := i_nle c18
                    refine lv_iload hx hb dX9_settle_68 (lv_at hl 0 rfl) ?_
                    refine lv_goto (tgt := 74) hx hb dX9_settle_70 (by decide) ?_
                    exact K17 _ _ _ ((if_neg c18).symm) h
              · refine lv_if_eq (tgt := 59) hx hb dX9_settle_40 (by decide) (fun c15 => ?_) (fun c15 => ?_)
                · have ic15 : (F_X9_has x2_13 x4_23).toInt = 0 := i_eq c15
                  refine lv_iconst (v := 0) hx hb dX9_settle_59 (by decide) ?_
                  exact K14 _ _ _ ((if_pos c15).symm) h
                · have ic15 : (F_X9_has x2_13 x4_23).toInt ≠ 0 := i_ne c15
                  refine lv_aload_n hx hb dX9_settle_43 rfl (lv_at hl 4 rfl) ?_
                  refine g_get (v := .ref (ad 59)) E h 48 rfl rfl layX9 19 (by decide) rfl mw_838 rfl dX9_settle_44 ?_
                  refine lv_iload_n hx hb dX9_settle_47 rfl (lv_at hl 2 rfl) ?_
                  refine lv_iconst (v := 1) hx hb dX9_settle_48 (by decide) ?_
                  refine lv_iload hx hb dX9_settle_49 (lv_at hl 0 rfl) ?_
                  refine lv_ishl hx hb dX9_settle_51 ?_
                  refine lv_iconst (v := (-1)) hx hb dX9_settle_52 (by decide) ?_
                  refine lv_ixor hx hb dX9_settle_53 ?_
                  refine lv_iand hx hb dX9_settle_54 ?_
                  refine g_iald (f := (m13.2.1 59)) E h 59 rfl (and_in (by omega) (by omega)) dX9_settle_55 ?_
                  refine lv_goto (tgt := 60) hx hb dX9_settle_56 (by decide) ?_
                  exact K14 _ _ _ ((if_neg c15).symm) h
        have q23_4 : (0 : Int32).toInt = 0 := rfl
        exact L23 7 (0 : Int32) (0 : Int32) _ _ ls ((show 0 ≤ (0 : Int32).toInt ∧ (0 : Int32).toInt ≤ 6 ∧ (0 : Int32).toInt + (7 : Nat) = 7 from by omega)) hF h (lv_sub hl [0, 1, 2, 3, 4] rfl)
  have q13_2 : (0 : Int32).toInt = 0 := rfl
  exact L13 65 (0 : Int32) τ _ _ ls ((show 0 ≤ (0 : Int32).toInt ∧ (0 : Int32).toInt ≤ 64 ∧ (0 : Int32).toInt + (65 : Nat) = 65 ∧ 0 ≤ ((τ.2.1 50) 0).toInt ∧ ((τ.2.1 50) 0).toInt ≤ 6 from by omega)) hF h (lv_sub hl [0, 1, 2] rfl)

def F_X9_salt_k98_10 (lf5 : Int32 → Int32 → Int32) (lf22 : Int32 → Int32 → Int32) (τ : St) (x2_5 : Int32) (x1_5 : Int32) (x4_22 : Int32) (x3_22 : Int32) (v7 : Int32) (v9 : Int32) : Int32 := (lf5 (x2_5 + (1 : Int32)) (if v9 ≤ v7 then x1_5 else x2_5))
def F_X9_salt_k94_8 (lf5 : Int32 → Int32 → Int32) (lf22 : Int32 → Int32 → Int32) (τ : St) (x2_5 : Int32) (x1_5 : Int32) (x4_22 : Int32) (x3_22 : Int32) (v7 : Int32) : Int32 := (F_X9_salt_k98_10 lf5 lf22 τ x2_5 x1_5 x4_22 x3_22 v7 (F_X9_ones x1_5))
def F_X9_salt_L22 (lf5 : Int32 → Int32 → Int32) : Nat → St → Int32 → Int32 → Int32 → Int32 → Int32
  | 0, _, _, _, _, _ => 0
  | n + 1, τ, x2_5, x1_5, x4_22, x3_22 => (if ((τ.2.1 50) 1) ≤ x4_22 then (if x3_22 = 0 then (lf5 (x2_5 + (1 : Int32)) x1_5) else (if x1_5 = ((-9) : Int32) then (lf5 (x2_5 + (1 : Int32)) x2_5) else (F_X9_salt_k94_8 lf5 (fun y1 y2 => F_X9_salt_L22 lf5 n τ x2_5 x1_5 y1 y2) τ x2_5 x1_5 x4_22 x3_22 (F_X9_ones x2_5)))) else (F_X9_salt_L22 lf5 n τ x2_5 x1_5 (x4_22 + (1 : Int32)) (if x3_22 = 0 then (0 : Int32) else (if (F_X9_has x2_5 ((τ.2.1 50) ((10 : Int32) + x4_22).toNatClampNeg)) = 0 then (if (F_X9_has x2_5 ((τ.2.1 50) ((18 : Int32) + x4_22).toNatClampNeg)) = 0 then (0 : Int32) else (1 : Int32)) else (1 : Int32)))))
def F_X9_salt_L5 : Nat → St → Int32 → Int32 → Int32
  | 0, _, _, _ => 0
  | n + 1, τ, x2_5, x1_5 => (if ((1 : Int32) <<< (((τ.2.1 50) 0) &&& 31)) ≤ x2_5 then x1_5 else (F_X9_salt_L22 (fun y1 y2 => F_X9_salt_L5  n τ y1 y2) 9 τ x2_5 x1_5 (0 : Int32) (1 : Int32)))
def F_X9_salt (τ : St) : Int32 := (F_X9_salt_L5  65 τ (0 : Int32) ((-9) : Int32))
set_option maxHeartbeats 4000000 in
set_option maxRecDepth 20000 in
theorem c_X9_salt (l : Launch) (D : va_G) (cI cZ : ClassId) (z : Nat) (ad : Nat → Nat) (σ τ : St) (hw_ : 0 ≤ ((τ.2.1 50) 0).toInt ∧ ((τ.2.1 50) 0).toInt ≤ 6) (hs_ : 0 ≤ ((τ.2.1 50) 1).toInt ∧ ((τ.2.1 50) 1).toInt ≤ 8) : gM l yX9_salt cX9_salt 5 (some .int) 2 D cI cZ z (gws ad cI cZ σ τ) [.ref (ad 48)] (some (.int (F_X9_salt τ))) (gws ad cI cZ σ τ) := by
  refine g_met (own := RX9) (by decide) rfl (Nat.le_of_ble_eq_true rfl) (fun p e s m below meth c ls Q E hr hlk h hl hQ => ?_)
  have hx := E.1
  have hb := E.2.1
  have hF : (F_X9_salt τ) = (F_X9_salt τ) := rfl
  have hl : lv_has ls 5 [(0, .ref (ad 48))] := hl
  refine lv_bipush (v := (-9)) hx hb dX9_salt_0 (by decide) ?_
  refine lv_istore_n (lv' := [(1, .int ((-9) : Int32)), (0, .ref (ad 48))]) hx hb dX9_salt_2 rfl hl (by decide) rfl (fun ls hl => ?_)
  have hsh := sh1_rng hw_
  refine lv_iconst (v := 0) hx hb dX9_salt_3 (by decide) ?_
  refine lv_istore_n (lv' := [(2, .int (0 : Int32)), (1, .int ((-9) : Int32)), (0, .ref (ad 48))]) hx hb dX9_salt_4 rfl hl (by decide) rfl (fun ls hl => ?_)
  have L5 : ∀ (n5 : Nat) (x2_5 : Int32) (x1_5 : Int32) (H : Heap) (locs : List Loc) (ls : Array Slot), (0 ≤ x2_5.toInt ∧ x2_5.toInt ≤ 64 ∧ x2_5.toInt + n5 = 65) → F_X9_salt_L5  n5 τ x2_5 x1_5 = (F_X9_salt τ) → gH D z s (gws ad cI cZ σ τ) H locs → lv_has ls 5 [(2, .int x2_5), (1, .int x1_5), (0, .ref (ad 48))] → W p l e (rmH 2) s m ([.ref (ad 48)] : List Value).toArray below meth c H locs 0 0 Q (F0 m 5 ls []) := by
    clear hF h hl
    intro n5
    induction n5 with
    | zero =>
      intro x2_5 x1_5 H locs ls hI
      exact absurd hI (by omega)
    | succ n5 ih5 =>
      intro x2_5 x1_5 H locs ls hI5 hF h hl
      refine lv_iload_n hx hb dX9_salt_5 rfl (lv_at hl 0 rfl) ?_
      refine lv_iconst (v := 1) hx hb dX9_salt_6 (by decide) ?_
      refine lv_aload_n hx hb dX9_salt_7 rfl (lv_at hl 2 rfl) ?_
      refine g_get (v := .ref (ad 50)) E h 48 rfl rfl layX9 3 (by decide) rfl mw_822 rfl dX9_salt_8 ?_
      refine lv_iconst (v := 0) hx hb dX9_salt_11 (by decide) ?_
      refine g_ialdk (f := (τ.2.1 50)) E h 50 rfl 0 rfl (ix_of (oI_lit (x := 0) (a := 0) rfl) (by omega) (by decide)) dX9_salt_12 ?_
      refine lv_ishl hx hb dX9_salt_13 ?_
      refine lv_icmp_ge (tgt := 116) hx hb dX9_salt_14 (by decide) (fun c2 => ?_) (fun c2 => ?_)
      · have ic2 : ((1 : Int32) <<< (((τ.2.1 50) 0) &&& 31)).toInt ≤ x2_5.toInt := i_le c2
        have hF := (if_pos c2).symm.trans hF
        refine lv_iload_n hx hb dX9_salt_116 rfl (lv_at hl 1 rfl) ?_
        exact g_iret E hr hlk h hQ hF rfl dX9_salt_117
      · have ic2 : x2_5.toInt < ((1 : Int32) <<< (((τ.2.1 50) 0) &&& 31)).toInt := i_nle c2
        have hF := (if_neg c2).symm.trans hF
        refine lv_iconst (v := 1) hx hb dX9_salt_17 (by decide) ?_
        refine lv_istore_n (lv' := [(3, .int (1 : Int32)), (2, .int x2_5), (1, .int x1_5), (0, .ref (ad 48))]) hx hb dX9_salt_18 rfl hl (by decide) rfl (fun ls hl => ?_)
        refine lv_iconst (v := 0) hx hb dX9_salt_19 (by decide) ?_
        refine lv_istore (lv' := [(4, .int (0 : Int32)), (3, .int (1 : Int32)), (2, .int x2_5), (1, .int x1_5), (0, .ref (ad 48))]) hx hb dX9_salt_20 hl (by decide) rfl (fun ls hl => ?_)
        have L22 : ∀ (n22 : Nat) (x4_22 : Int32) (x3_22 : Int32) (H : Heap) (locs : List Loc) (ls : Array Slot), (0 ≤ x4_22.toInt ∧ x4_22.toInt ≤ 8 ∧ x4_22.toInt + n22 = 9) → F_X9_salt_L22 (fun y1 y2 => F_X9_salt_L5  n5 τ y1 y2) n22 τ x2_5 x1_5 x4_22 x3_22 = (F_X9_salt τ) → gH D z s (gws ad cI cZ σ τ) H locs → lv_has ls 5 [(4, .int x4_22), (3, .int x3_22), (2, .int x2_5), (1, .int x1_5), (0, .ref (ad 48))] → W p l e (rmH 2) s m ([.ref (ad 48)] : List Value).toArray below meth c H locs 0 0 Q (F0 m 22 ls []) := by
          clear hF h hl
          intro n22
          induction n22 with
          | zero =>
            intro x4_22 x3_22 H locs ls hI
            exact absurd hI (by omega)
          | succ n22 ih22 =>
            intro x4_22 x3_22 H locs ls hI22 hF h hl
            refine lv_iload hx hb dX9_salt_22 (lv_at hl 0 rfl) ?_
            refine lv_aload_n hx hb dX9_salt_24 rfl (lv_at hl 4 rfl) ?_
            refine g_get (v := .ref (ad 50)) E h 48 rfl rfl layX9 3 (by decide) rfl mw_822 rfl dX9_salt_25 ?_
            refine lv_iconst (v := 1) hx hb dX9_salt_28 (by decide) ?_
            refine g_ialdk (f := (τ.2.1 50)) E h 50 rfl 1 rfl (ix_of (oI_lit (x := 1) (a := 1) rfl) (by omega) (by decide)) dX9_salt_29 ?_
            refine lv_icmp_ge (tgt := 83) hx hb dX9_salt_30 (by decide) (fun c4 => ?_) (fun c4 => ?_)
            · have ic4 : ((τ.2.1 50) 1).toInt ≤ x4_22.toInt := i_le c4
              have hF := (if_pos c4).symm.trans hF
              refine lv_iload_n hx hb dX9_salt_83 rfl (lv_at hl 1 rfl) ?_
              refine lv_if_eq (tgt := 108) hx hb dX9_salt_84 (by decide) (fun c5 => ?_) (fun c5 => ?_)
              · have ic5 : x3_22.toInt = 0 := i_eq c5
                have hF := (if_pos c5).symm.trans hF
                refine lv_iload_n hx hb dX9_salt_108 rfl (lv_at hl 3 rfl) ?_
                refine lv_istore_n (lv' := [(1, .int x1_5), (4, .int x4_22), (3, .int x3_22), (2, .int x2_5), (0, .ref (ad 48))]) hx hb dX9_salt_109 rfl hl (by decide) rfl (fun ls hl => ?_)
                refine lv_iinc (v := (x2_5 + (1 : Int32))) (lv' := [(2, .int (x2_5 + (1 : Int32))), (1, .int x1_5), (4, .int x4_22), (3, .int x3_22), (0, .ref (ad 48))]) hx hb dX9_salt_110 hl (k := 3) rfl rfl (by decide) rfl (fun ls hl => ?_)
                refine lv_goto (tgt := 5) hx hb dX9_salt_113 (by decide) ?_
                have e5_2 : (x2_5 + (1 : Int32)).toInt = _ := ti_of (oI_add (oI_at x2_5) (oI_lit (x := 1) (a := 1) rfl)) (by omega)
                exact ih5 (x2_5 + (1 : Int32)) x1_5 _ _ ls ((show 0 ≤ (x2_5 + (1 : Int32)).toInt ∧ (x2_5 + (1 : Int32)).toInt ≤ 64 ∧ (x2_5 + (1 : Int32)).toInt + n5 = 65 from by omega)) hF h (lv_sub hl [0, 1, 4] rfl)
              · have ic5 : x3_22.toInt ≠ 0 := i_ne c5
                have hF := (if_neg c5).symm.trans hF
                refine lv_iload_n hx hb dX9_salt_87 rfl (lv_at hl 3 rfl) ?_
                refine lv_bipush (v := (-9)) hx hb dX9_salt_88 (by decide) ?_
                refine lv_icmp_eq (tgt := 104) hx hb dX9_salt_90 (by decide) (fun c6 => ?_) (fun c6 => ?_)
                · have ic6 : x1_5.toInt = (-9) := i_eq c6
                  have hF := (if_pos c6).symm.trans hF
                  refine lv_iload_n hx hb dX9_salt_104 rfl (lv_at hl 2 rfl) ?_
                  refine lv_goto (tgt := 109) hx hb dX9_salt_105 (by decide) ?_
                  refine lv_istore_n (lv' := [(1, .int x2_5), (4, .int x4_22), (3, .int x3_22), (2, .int x2_5), (0, .ref (ad 48))]) hx hb dX9_salt_109 rfl hl (by decide) rfl (fun ls hl => ?_)
                  refine lv_iinc (v := (x2_5 + (1 : Int32))) (lv' := [(2, .int (x2_5 + (1 : Int32))), (1, .int x2_5), (4, .int x4_22), (3, .int x3_22), (0, .ref (ad 48))]) hx hb dX9_salt_110 hl (k := 3) rfl rfl (by decide) rfl (fun ls hl => ?_)
                  refine lv_goto (tgt := 5) hx hb dX9_salt_113 (by decide) ?_
                  have e5_2 : (x2_5 + (1 : Int32)).toInt = _ := ti_of (oI_add (oI_at x2_5) (oI_lit (x := 1) (a := 1) rfl)) (by omega)
                  exact ih5 (x2_5 + (1 : Int32)) x2_5 _ _ ls ((show 0 ≤ (x2_5 + (1 : Int32)).toInt ∧ (x2_5 + (1 : Int32)).toInt ≤ 64 ∧ (x2_5 + (1 : Int32)).toInt + n5 = 65 from by omega)) hF h (lv_sub hl [0, 1, 4] rfl)
                · have ic6 : x1_5.toInt ≠ (-9) := i_ne c6
                  have hF := (if_neg c6).symm.trans hF
                  refine lv_iload_n hx hb dX9_salt_93 rfl (lv_at hl 2 rfl) ?_
                  refine g_callSh (F_X9_ones x2_5) (rest := []) E h (c_X9_ones l D cI cZ z (gws ad cI cZ σ τ) x2_5) mw_1015 cbX9_ones ⟨by decide, by decide⟩ rfl rfl hl.1 (Nat.le_of_ble_eq_true rfl) ⟨Nat.zero_le _, Nat.zero_le _⟩ dX9_salt_94 (fun v7 huv7 H locs h => ?_)
                  have hF : F_X9_salt_k94_8 (fun y1 y2 => F_X9_salt_L5  n5 τ y1 y2) (fun y1 y2 => F_X9_salt_L22 (fun y1 y2 => F_X9_salt_L5  n5 τ y1 y2) n22 τ x2_5 x1_5 y1 y2) τ x2_5 x1_5 x4_22 x3_22 v7 = (F_X9_salt τ) := by rw [← huv7]; exact hF
                  refine lv_iload_n hx hb dX9_salt_97 rfl (lv_at hl 3 rfl) ?_
                  refine g_callSh (F_X9_ones x1_5) (rest := [.int v7]) E h (c_X9_ones l D cI cZ z (gws ad cI cZ σ τ) x1_5) mw_1015 cbX9_ones ⟨by decide, by decide⟩ rfl rfl hl.1 (Nat.le_of_ble_eq_true rfl) ⟨Nat.zero_le _, Nat.zero_le _⟩ dX9_salt_98 (fun v9 huv9 H locs h => ?_)
                  have hF : F_X9_salt_k98_10 (fun y1 y2 => F_X9_salt_L5  n5 τ y1 y2) (fun y1 y2 => F_X9_salt_L22 (fun y1 y2 => F_X9_salt_L5  n5 τ y1 y2) n22 τ x2_5 x1_5 y1 y2) τ x2_5 x1_5 x4_22 x3_22 v7 v9 = (F_X9_salt τ) := by rw [← huv9]; exact hF
                  refine g_dia (D := D) (z := z) (ws := gws ad cI cZ σ τ) (rest := []) 109 (if v9 ≤ v7 then x1_5 else x2_5) (fun H locs h => ?_) (fun K12 => ?_)
                  · refine lv_istore_n (lv' := [(1, .int (if v9 ≤ v7 then x1_5 else x2_5)), (4, .int x4_22), (3, .int x3_22), (2, .int x2_5), (0, .ref (ad 48))]) hx hb dX9_salt_109 rfl hl (by decide) rfl (fun ls hl => ?_)
                    refine lv_iinc (v := (x2_5 + (1 : Int32))) (lv' := [(2, .int (x2_5 + (1 : Int32))), (1, .int (if v9 ≤ v7 then x1_5 else x2_5)), (4, .int x4_22), (3, .int x3_22), (0, .ref (ad 48))]) hx hb dX9_salt_110 hl (k := 3) rfl rfl (by decide) rfl (fun ls hl => ?_)
                    refine lv_goto (tgt := 5) hx hb dX9_salt_113 (by decide) ?_
                    have e5_2 : (x2_5 + (1 : Int32)).toInt = _ := ti_of (oI_add (oI_at x2_5) (oI_lit (x := 1) (a := 1) rfl)) (by omega)
                    exact ih5 (x2_5 + (1 : Int32)) (if v9 ≤ v7 then x1_5 else x2_5) _ _ ls ((show 0 ≤ (x2_5 + (1 : Int32)).toInt ∧ (x2_5 + (1 : Int32)).toInt ≤ 64 ∧ (x2_5 + (1 : Int32)).toInt + n5 = 65 from by omega)) hF h (lv_sub hl [0, 1, 4] rfl)
                  · refine lv_icmp_ge (tgt := 108) hx hb dX9_salt_101 (by decide) (fun c13 => ?_) (fun c13 => ?_)
                    · have ic13 : v9.toInt ≤ v7.toInt := i_le c13
                      refine lv_iload_n hx hb dX9_salt_108 rfl (lv_at hl 3 rfl) ?_
                      exact K12 _ _ _ ((if_pos c13).symm) h
                    · have ic13 : v7.toInt < v9.toInt := i_nle c13
                      refine lv_iload_n hx hb dX9_salt_104 rfl (lv_at hl 2 rfl) ?_
                      refine lv_goto (tgt := 109) hx hb dX9_salt_105 (by decide) ?_
                      exact K12 _ _ _ ((if_neg c13).symm) h
            · have ic4 : x4_22.toInt < ((τ.2.1 50) 1).toInt := i_nle c4
              have hF := (if_neg c4).symm.trans hF
              refine lv_iload_n hx hb dX9_salt_33 rfl (lv_at hl 1 rfl) ?_
              refine g_dia (D := D) (z := z) (ws := gws ad cI cZ σ τ) (rest := []) 76 (if x3_22 = 0 then (0 : Int32) else (if (F_X9_has x2_5 ((τ.2.1 50) ((10 : Int32) + x4_22).toNatClampNeg)) = 0 then (if (F_X9_has x2_5 ((τ.2.1 50) ((18 : Int32) + x4_22).toNatClampNeg)) = 0 then (0 : Int32) else (1 : Int32)) else (1 : Int32))) (fun H locs h => ?_) (fun K17 => ?_)
              · refine lv_istore_n (lv' := [(3, .int (if x3_22 = 0 then (0 : Int32) else (if (F_X9_has x2_5 ((τ.2.1 50) ((10 : Int32) + x4_22).toNatClampNeg)) = 0 then (if (F_X9_has x2_5 ((τ.2.1 50) ((18 : Int32) + x4_22).toNatClampNeg)) = 0 then (0 : Int32) else (1 : Int32)) else (1 : Int32)))), (4, .int x4_22), (2, .int x2_5), (1, .int x1_5), (0, .ref (ad 48))]) hx hb dX9_salt_76 rfl hl (by decide) rfl (fun ls hl => ?_)
                refine lv_iinc (v := (x4_22 + (1 : Int32))) (lv' := [(4, .int (x4_22 + (1 : Int32))), (3, .int (if x3_22 = 0 then (0 : Int32) else (if (F_X9_has x2_5 ((τ.2.1 50) ((10 : Int32) + x4_22).toNatClampNeg)) = 0 then (if (F_X9_has x2_5 ((τ.2.1 50) ((18 : Int32) + x4_22).toNatClampNeg)) = 0 then (0 : Int32) else (1 : Int32)) else (1 : Int32)))), (2, .int x2_5), (1, .int x1_5), (0, .ref (ad 48))]) hx hb dX9_salt_77 hl (k := 1) rfl rfl (by decide) rfl (fun ls hl => ?_)
                refine lv_goto (tgt := 22) hx hb dX9_salt_80 (by decide) ?_
                have e22_4 : (x4_22 + (1 : Int32)).toInt = _ := ti_of (oI_add (oI_at x4_22) (oI_lit (x := 1) (a := 1) rfl)) (by omega)
                exact ih22 (x4_22 + (1 : Int32)) (if x3_22 = 0 then (0 : Int32) else (if (F_X9_has x2_5 ((τ.2.1 50) ((10 : Int32) + x4_22).toNatClampNeg)) = 0 then (if (F_X9_has x2_5 ((τ.2.1 50) ((18 : Int32) + x4_22).toNatClampNeg)) = 0 then (0 : Int32) else (1 : Int32)) else (1 : Int32))) _ _ ls ((show 0 ≤ (x4_22 + (1 : Int32)).toInt ∧ (x4_22 + (1 : Int32)).toInt ≤ 8 ∧ (x4_22 + (1 : Int32)).toInt + n22 = 9 from by omega)) hF h (lv_sub hl [0, 1, 2, 3, 4] rfl)
              · refine lv_if_eq (tgt := 75) hx hb dX9_salt_34 (by decide) (fun c18 => ?_) (fun c18 => ?_)
                · have ic18 : x3_22.toInt = 0 := i_eq c18
                  refine lv_iconst (v := 0) hx hb dX9_salt_75 (by decide) ?_
                  exact K17 _ _ _ ((if_pos c18).symm) h
                · have ic18 : x3_22.toInt ≠ 0 := i_ne c18
                  refine lv_iload_n hx hb dX9_salt_37 rfl (lv_at hl 2 rfl) ?_
                  refine lv_aload_n hx hb dX9_salt_38 rfl (lv_at hl 4 rfl) ?_
                  refine g_get (v := .ref (ad 50)) E h 48 rfl rfl layX9 3 (by decide) rfl mw_822 rfl dX9_salt_39 ?_
                  refine lv_bipush (v := 10) hx hb dX9_salt_42 (by decide) ?_
                  refine lv_iload hx hb dX9_salt_44 (lv_at hl 0 rfl) ?_
                  refine lv_iadd hx hb dX9_salt_46 ?_
                  refine g_iald (f := (τ.2.1 50)) E h 50 rfl (ix_of (oI_add (oI_lit (x := 10) (a := 10) rfl) (oI_at x4_22)) (by omega) (by decide)) dX9_salt_47 ?_
                  refine g_callSi (rest := []) E h (c_X9_has l D cI cZ z (gws ad cI cZ σ τ) x2_5 ((τ.2.1 50) ((10 : Int32) + x4_22).toNatClampNeg)) mw_915 cbX9_has ⟨by decide, by decide⟩ rfl rfl hl.1 (Nat.le_of_ble_eq_true rfl) ⟨Nat.zero_le _, Nat.zero_le _⟩ dX9_salt_48 (fun H locs h => ?_)
                  refine lv_if_ne (tgt := 71) hx hb dX9_salt_51 (by decide) (fun c19 => ?_) (fun c19 => ?_)
                  · have ic19 : (F_X9_has x2_5 ((τ.2.1 50) ((10 : Int32) + x4_22).toNatClampNeg)).toInt ≠ 0 := i_ne c19
                    refine lv_iconst (v := 1) hx hb dX9_salt_71 (by decide) ?_
                    refine lv_goto (tgt := 76) hx hb dX9_salt_72 (by decide) ?_
                    exact K17 _ _ _ (((if_neg c18).trans (if_neg c19)).symm) h
                  · have ic19 : (F_X9_has x2_5 ((τ.2.1 50) ((10 : Int32) + x4_22).toNatClampNeg)).toInt = 0 := i_eq c19
                    refine lv_iload_n hx hb dX9_salt_54 rfl (lv_at hl 2 rfl) ?_
                    refine lv_aload_n hx hb dX9_salt_55 rfl (lv_at hl 4 rfl) ?_
                    refine g_get (v := .ref (ad 50)) E h 48 rfl rfl layX9 3 (by decide) rfl mw_822 rfl dX9_salt_56 ?_
                    refine lv_bipush (v := 18) hx hb dX9_salt_59 (by decide) ?_
                    refine lv_iload hx hb dX9_salt_61 (lv_at hl 0 rfl) ?_
                    refine lv_iadd hx hb dX9_salt_63 ?_
                    refine g_iald (f := (τ.2.1 50)) E h 50 rfl (ix_of (oI_add (oI_lit (x := 18) (a := 18) rfl) (oI_at x4_22)) (by omega) (by decide)) dX9_salt_64 ?_
                    refine g_callSi (rest := []) E h (c_X9_has l D cI cZ z (gws ad cI cZ σ τ) x2_5 ((τ.2.1 50) ((18 : Int32) + x4_22).toNatClampNeg)) mw_915 cbX9_has ⟨by decide, by decide⟩ rfl rfl hl.1 (Nat.le_of_ble_eq_true rfl) ⟨Nat.zero_le _, Nat.zero_le _⟩ dX9_salt_65 (fun H locs h => ?_)
                    refine lv_if_eq (tgt := 75) hx hb dX9_salt_68 (by decide) (fun c20 => ?_) (fun c20 => ?_)
                    · have ic20 : (F_X9_has x2_5 ((τ.2.1 50) ((18 : Int32) + x4_22).toNatClampNeg)).toInt = 0 := i_eq c20
                      refine lv_iconst (v := 0) hx hb dX9_salt_75 (by decide) ?_
                      exact K17 _ _ _ (((if_neg c18).trans ((if_pos c19).trans (if_pos c20))).symm) h
                    · have ic20 : (F_X9_has x2_5 ((τ.2.1 50) ((18 : Int32) + x4_22).toNatClampNeg)).toInt ≠ 0 := i_ne c20
                      refine lv_iconst (v := 1) hx hb dX9_salt_71 (by decide) ?_
                      refine lv_goto (tgt := 76) hx hb dX9_salt_72 (by decide) ?_
                      exact K17 _ _ _ (((if_neg c18).trans ((if_pos c19).trans (if_neg c20))).symm) h
        have q22_4 : (0 : Int32).toInt = 0 := rfl
        exact L22 9 (0 : Int32) (1 : Int32) _ _ ls ((show 0 ≤ (0 : Int32).toInt ∧ (0 : Int32).toInt ≤ 8 ∧ (0 : Int32).toInt + (9 : Nat) = 9 from by omega)) hF h (lv_sub hl [0, 1, 2, 3, 4] rfl)
  have q5_2 : (0 : Int32).toInt = 0 := rfl
  exact L5 65 (0 : Int32) ((-9) : Int32) _ _ ls ((show 0 ≤ (0 : Int32).toInt ∧ (0 : Int32).toInt ≤ 64 ∧ (0 : Int32).toInt + (65 : Nat) = 65 from by omega)) hF h (lv_sub hl [0, 1, 2] rfl)

def F_X9_now_k97_9 (lf7 : Int32 → Int32 → Int32 → (Int32 × St)) (τ : St) (a1 : Int32) (x4_7 : Int32) (x3_7 : Int32) (x2_7 : Int32) (u8 : Int32 × St) : Int32 × St := (u8.1, u8.2)
def F_X9_now_k102_12 (lf7 : Int32 → Int32 → Int32 → (Int32 × St)) (τ : St) (a1 : Int32) (x4_7 : Int32) (x3_7 : Int32) (x2_7 : Int32) (v11 : Int32) : Int32 × St := (v11, τ)
def F_X9_now_k27_16 (lf7 : Int32 → Int32 → Int32 → (Int32 × St)) (τ : St) (a1 : Int32) (x4_7 : Int32) (x3_7 : Int32) (x2_7 : Int32) (v13 : Int32) (v15 : Int32) : Int32 × St := (lf7 (x4_7 + (1 : Int32)) (x3_7 + v15) (x2_7 + v13))
def F_X9_now_k18_14 (lf7 : Int32 → Int32 → Int32 → (Int32 × St)) (τ : St) (a1 : Int32) (x4_7 : Int32) (x3_7 : Int32) (x2_7 : Int32) (v13 : Int32) : Int32 × St := (F_X9_now_k27_16 lf7 τ a1 x4_7 x3_7 x2_7 v13 (F_X9_duesOf τ x4_7))
def F_X9_now_L7 : Nat → St → Int32 → Int32 → Int32 → Int32 → Int32 × St
  | 0, τ, _, _, _, _ => (0, τ)
  | n + 1, τ, a1, x4_7, x3_7, x2_7 => (if (6 : Int32) ≤ x4_7 then (if a1 = 0 then (((τ.2.1 53) 13), τ) else (if a1 = 1 then (((τ.2.1 53) 12), τ) else (if a1 = 2 then (x2_7, τ) else (if a1 = 3 then (x3_7, τ) else (if a1 = 4 then (F_X9_now_k97_9 (fun y1 y2 y3 => F_X9_now_L7  n τ a1 y1 y2 y3) τ a1 x4_7 x3_7 x2_7 (F_X9_settle τ)) else (if a1 = 5 then (F_X9_now_k102_12 (fun y1 y2 y3 => F_X9_now_L7  n τ a1 y1 y2 y3) τ a1 x4_7 x3_7 x2_7 (F_X9_salt τ)) else (((-1) : Int32), τ))))))) else (F_X9_now_k18_14 (fun y1 y2 y3 => F_X9_now_L7  n τ a1 y1 y2 y3) τ a1 x4_7 x3_7 x2_7 (F_X9_knotsAt τ x4_7)))
def F_X9_now (τ : St) (a1 : Int32) : Int32 × St := (F_X9_now_L7  7 τ a1 (0 : Int32) (0 : Int32) (0 : Int32))
abbrev I_X9_now : List Nat := []
abbrev A_X9_now : List Nat := [59]
theorem fr_F_X9_now_k97_9 (lf7 : Int32 → Int32 → Int32 → (Int32 × St)) (τ : St) (a1 : Int32) (x4_7 : Int32) (x3_7 : Int32) (x2_7 : Int32) (u8 : Int32 × St) (hlf7 : ∀ (y1 : Int32) (y2 : Int32) (y3 : Int32), Fr I_X9_now A_X9_now false τ (lf7 y1 y2 y3).2) (hfr : Fr I_X9_now A_X9_now false τ (u8.2)) : Fr I_X9_now A_X9_now false τ (F_X9_now_k97_9 lf7 τ a1 x4_7 x3_7 x2_7 u8).2 := hfr
theorem fr_F_X9_now_k102_12 (lf7 : Int32 → Int32 → Int32 → (Int32 × St)) (τ : St) (a1 : Int32) (x4_7 : Int32) (x3_7 : Int32) (x2_7 : Int32) (v11 : Int32) (hlf7 : ∀ (y1 : Int32) (y2 : Int32) (y3 : Int32), Fr I_X9_now A_X9_now false τ (lf7 y1 y2 y3).2) : Fr I_X9_now A_X9_now false τ (F_X9_now_k102_12 lf7 τ a1 x4_7 x3_7 x2_7 v11).2 := Fr.rf
theorem fr_F_X9_now_k27_16 (lf7 : Int32 → Int32 → Int32 → (Int32 × St)) (τ : St) (a1 : Int32) (x4_7 : Int32) (x3_7 : Int32) (x2_7 : Int32) (v13 : Int32) (v15 : Int32) (hlf7 : ∀ (y1 : Int32) (y2 : Int32) (y3 : Int32), Fr I_X9_now A_X9_now false τ (lf7 y1 y2 y3).2) : Fr I_X9_now A_X9_now false τ (F_X9_now_k27_16 lf7 τ a1 x4_7 x3_7 x2_7 v13 v15).2 := (hlf7 (x4_7 + (1 : Int32)) (x3_7 + v15) (x2_7 + v13) )
theorem fr_F_X9_now_k18_14 (lf7 : Int32 → Int32 → Int32 → (Int32 × St)) (τ : St) (a1 : Int32) (x4_7 : Int32) (x3_7 : Int32) (x2_7 : Int32) (v13 : Int32) (hlf7 : ∀ (y1 : Int32) (y2 : Int32) (y3 : Int32), Fr I_X9_now A_X9_now false τ (lf7 y1 y2 y3).2) : Fr I_X9_now A_X9_now false τ (F_X9_now_k18_14 lf7 τ a1 x4_7 x3_7 x2_7 v13).2 := (fr_F_X9_now_k27_16 lf7 τ a1 x4_7 x3_7 x2_7 v13 (F_X9_duesOf τ x4_7) hlf7)
theorem fr_F_X9_now_L7_w (τ : St) (a1 : Int32) : ∀ (n : Nat) (x4_7 : Int32) (x3_7 : Int32) (x2_7 : Int32), Fr I_X9_now A_X9_now false τ (F_X9_now_L7  n τ a1 x4_7 x3_7 x2_7).2
  | 0, x4_7, x3_7, x2_7 => Fr.rf
  | n + 1, x4_7, x3_7, x2_7 => (fr_ite2 (fr_ite2 Fr.rf (fr_ite2 Fr.rf (fr_ite2 Fr.rf (fr_ite2 Fr.rf (fr_ite2 (fr_F_X9_now_k97_9 (fun y1 y2 y3 => F_X9_now_L7  n τ a1 y1 y2 y3) τ a1 x4_7 x3_7 x2_7 (F_X9_settle τ) (fun y1 y2 y3 => fr_F_X9_now_L7_w  τ a1  n y1 y2 y3) (Fr.tr Fr.rf (Fr.mono (by decide) (by decide) (by decide) (fr_F_X9_settle τ)))) (fr_ite2 (fr_F_X9_now_k102_12 (fun y1 y2 y3 => F_X9_now_L7  n τ a1 y1 y2 y3) τ a1 x4_7 x3_7 x2_7 (F_X9_salt τ) (fun y1 y2 y3 => fr_F_X9_now_L7_w  τ a1  n y1 y2 y3)) Fr.rf)))))) (fr_F_X9_now_k18_14 (fun y1 y2 y3 => F_X9_now_L7  n τ a1 y1 y2 y3) τ a1 x4_7 x3_7 x2_7 (F_X9_knotsAt τ x4_7) (fun y1 y2 y3 => fr_F_X9_now_L7_w  τ a1  n y1 y2 y3)))
theorem fr_F_X9_now_L7 (n : Nat) (τ : St) (a1 : Int32) (x4_7 : Int32) (x3_7 : Int32) (x2_7 : Int32) : Fr I_X9_now A_X9_now false τ (F_X9_now_L7  n τ a1 x4_7 x3_7 x2_7).2 := fr_F_X9_now_L7_w  τ a1  n x4_7 x3_7 x2_7
theorem fr_F_X9_now (τ : St) (a1 : Int32) : Fr I_X9_now A_X9_now false τ (F_X9_now τ a1).2 := (fr_F_X9_now_L7  7 τ a1 (0 : Int32) (0 : Int32) (0 : Int32) )
set_option maxHeartbeats 4000000 in
set_option maxRecDepth 20000 in
theorem c_X9_now (l : Launch) (D : va_G) (cI cZ : ClassId) (z : Nat) (ad : Nat → Nat) (σ τ : St) (a1 : Int32) (hw_ : 0 ≤ ((τ.2.1 50) 0).toInt ∧ ((τ.2.1 50) 0).toInt ≤ 6) (hs_ : 0 ≤ ((τ.2.1 50) 1).toInt ∧ ((τ.2.1 50) 1).toInt ≤ 8) : gM l yX9_now cX9_now 5 (some .int) 5 D cI cZ z (gws ad cI cZ σ τ) [.ref (ad 48), .int a1] (some (.int (F_X9_now τ a1).1)) (gws ad cI cZ σ (F_X9_now τ a1).2) := by
  refine g_met (own := RX9) (by decide) rfl (Nat.le_of_ble_eq_true rfl) (fun p e s m below meth c ls Q E hr hlk h hl hQ => ?_)
  have hx := E.1
  have hb := E.2.1
  have hF : (F_X9_now τ a1) = (F_X9_now τ a1) := rfl
  have hl : lv_has ls 5 [(0, .ref (ad 48)), (1, .int a1)] := hl
  refine lv_iconst (v := 0) hx hb dX9_now_0 (by decide) ?_
  refine lv_istore_n (lv' := [(2, .int (0 : Int32)), (0, .ref (ad 48)), (1, .int a1)]) hx hb dX9_now_1 rfl hl (by decide) rfl (fun ls hl => ?_)
  refine lv_iconst (v := 0) hx hb dX9_now_2 (by decide) ?_
  refine lv_istore_n (lv' := [(3, .int (0 : Int32)), (2, .int (0 : Int32)), (0, .ref (ad 48)), (1, .int a1)]) hx hb dX9_now_3 rfl hl (by decide) rfl (fun ls hl => ?_)
  refine lv_iconst (v := 0) hx hb dX9_now_4 (by decide) ?_
  refine lv_istore (lv' := [(4, .int (0 : Int32)), (3, .int (0 : Int32)), (2, .int (0 : Int32)), (0, .ref (ad 48)), (1, .int a1)]) hx hb dX9_now_5 hl (by decide) rfl (fun ls hl => ?_)
  have L7 : ∀ (n7 : Nat) (x4_7 : Int32) (x3_7 : Int32) (x2_7 : Int32) (H : Heap) (locs : List Loc) (ls : Array Slot), (0 ≤ x4_7.toInt ∧ x4_7.toInt ≤ 6 ∧ x4_7.toInt + n7 = 7) → F_X9_now_L7  n7 τ a1 x4_7 x3_7 x2_7 = (F_X9_now τ a1) → gH D z s (gws ad cI cZ σ τ) H locs → lv_has ls 5 [(4, .int x4_7), (3, .int x3_7), (2, .int x2_7), (0, .ref (ad 48)), (1, .int a1)] → W p l e (rmH 5) s m ([.ref (ad 48), .int a1] : List Value).toArray below meth c H locs 0 0 Q (F0 m 7 ls []) := by
    clear hF h hl
    intro n7
    induction n7 with
    | zero =>
      intro x4_7 x3_7 x2_7 H locs ls hI
      exact absurd hI (by omega)
    | succ n7 ih7 =>
      intro x4_7 x3_7 x2_7 H locs ls hI7 hF h hl
      refine lv_iload hx hb dX9_now_7 (lv_at hl 0 rfl) ?_
      refine lv_bipush (v := 6) hx hb dX9_now_9 (by decide) ?_
      refine lv_icmp_ge (tgt := 38) hx hb dX9_now_11 (by decide) (fun c2 => ?_) (fun c2 => ?_)
      · have ic2 : 6 ≤ x4_7.toInt := i_le c2
        have hF := (if_pos c2).symm.trans hF
        refine lv_iload_n hx hb dX9_now_38 rfl (lv_at hl 4 rfl) ?_
        by_cases t3 : a1 = 0
        · have it3 : a1.toInt = 0 := i_eq t3
          have hF := (if_pos t3).symm.trans hF
          refine lv_tableIn (off := 37) (tgt := 76) hx hb dX9_now_39 (by rw [it3]; decide) (by rw [it3]; decide) (by rw [it3]; rfl) (by decide) ?_
          refine lv_aload_n hx hb dX9_now_76 rfl (lv_at hl 3 rfl) ?_
          refine g_get (v := .ref (ad 53)) E h 48 rfl rfl layX9 6 (by decide) rfl mw_825 rfl dX9_now_77 ?_
          refine lv_bipush (v := 13) hx hb dX9_now_80 (by decide) ?_
          refine g_ialdk (f := (τ.2.1 53)) E h 53 rfl 13 rfl (ix_of (oI_lit (x := 13) (a := 13) rfl) (by omega) (by decide)) dX9_now_82 ?_
          exact g_iret E hr hlk h hQ (fst_of hF) (snd_of hF (fun u => gws ad cI cZ σ u)) dX9_now_83
        · have it3 : a1.toInt ≠ 0 := i_ne t3
          have hF := (if_neg t3).symm.trans hF
          by_cases t4 : a1 = 1
          · have it4 : a1.toInt = 1 := i_eq t4
            have hF := (if_pos t4).symm.trans hF
            refine lv_tableIn (off := 45) (tgt := 84) hx hb dX9_now_39 (by rw [it4]; decide) (by rw [it4]; decide) (by rw [it4]; rfl) (by decide) ?_
            refine lv_aload_n hx hb dX9_now_84 rfl (lv_at hl 3 rfl) ?_
            refine g_get (v := .ref (ad 53)) E h 48 rfl rfl layX9 6 (by decide) rfl mw_825 rfl dX9_now_85 ?_
            refine lv_bipush (v := 12) hx hb dX9_now_88 (by decide) ?_
            refine g_ialdk (f := (τ.2.1 53)) E h 53 rfl 12 rfl (ix_of (oI_lit (x := 12) (a := 12) rfl) (by omega) (by decide)) dX9_now_90 ?_
            exact g_iret E hr hlk h hQ (fst_of hF) (snd_of hF (fun u => gws ad cI cZ σ u)) dX9_now_91
          · have it4 : a1.toInt ≠ 1 := i_ne t4
            have hF := (if_neg t4).symm.trans hF
            by_cases t5 : a1 = 2
            · have it5 : a1.toInt = 2 := i_eq t5
              have hF := (if_pos t5).symm.trans hF
              refine lv_tableIn (off := 53) (tgt := 92) hx hb dX9_now_39 (by rw [it5]; decide) (by rw [it5]; decide) (by rw [it5]; rfl) (by decide) ?_
              refine lv_iload_n hx hb dX9_now_92 rfl (lv_at hl 2 rfl) ?_
              exact g_iret E hr hlk h hQ (fst_of hF) (snd_of hF (fun u => gws ad cI cZ σ u)) dX9_now_93
            · have it5 : a1.toInt ≠ 2 := i_ne t5
              have hF := (if_neg t5).symm.trans hF
              by_cases t6 : a1 = 3
              · have it6 : a1.toInt = 3 := i_eq t6
                have hF := (if_pos t6).symm.trans hF
                refine lv_tableIn (off := 55) (tgt := 94) hx hb dX9_now_39 (by rw [it6]; decide) (by rw [it6]; decide) (by rw [it6]; rfl) (by decide) ?_
                refine lv_iload_n hx hb dX9_now_94 rfl (lv_at hl 1 rfl) ?_
                exact g_iret E hr hlk h hQ (fst_of hF) (snd_of hF (fun u => gws ad cI cZ σ u)) dX9_now_95
              · have it6 : a1.toInt ≠ 3 := i_ne t6
                have hF := (if_neg t6).symm.trans hF
                by_cases t7 : a1 = 4
                · have it7 : a1.toInt = 4 := i_eq t7
                  have hF := (if_pos t7).symm.trans hF
                  refine lv_tableIn (off := 57) (tgt := 96) hx hb dX9_now_39 (by rw [it7]; decide) (by rw [it7]; decide) (by rw [it7]; rfl) (by decide) ?_
                  refine lv_aload_n hx hb dX9_now_96 rfl (lv_at hl 3 rfl) ?_
                  refine g_callVU (F_X9_settle τ) (fun u => gws ad cI cZ σ u) (rest := []) E h (c_X9_settle l D cI cZ z ad σ τ (show 0 ≤ ((τ.2.1 50) 0).toInt ∧ ((τ.2.1 50) 0).toInt ≤ 6 from by omega)) mw_1007 cbX9_settle 48 rfl rfl ⟨by decide, by decide⟩ rfl rfl hl.1 (Nat.le_of_ble_eq_true rfl) ⟨Nat.zero_le _, Nat.zero_le _⟩ dX9_now_97 (fun u8 huu8 H locs h => ?_)
                  have hF : F_X9_now_k97_9 (fun y1 y2 y3 => F_X9_now_L7  n7 τ a1 y1 y2 y3) τ a1 x4_7 x3_7 x2_7 u8 = (F_X9_now τ a1) := by rw [← huu8]; exact hF
                  exact g_iret E hr hlk h hQ (fst_of hF) (snd_of hF (fun u => gws ad cI cZ σ u)) dX9_now_100
                · have it7 : a1.toInt ≠ 4 := i_ne t7
                  have hF := (if_neg t7).symm.trans hF
                  by_cases t10 : a1 = 5
                  · have it10 : a1.toInt = 5 := i_eq t10
                    have hF := (if_pos t10).symm.trans hF
                    refine lv_tableIn (off := 62) (tgt := 101) hx hb dX9_now_39 (by rw [it10]; decide) (by rw [it10]; decide) (by rw [it10]; rfl) (by decide) ?_
                    refine lv_aload_n hx hb dX9_now_101 rfl (lv_at hl 3 rfl) ?_
                    refine g_callVh (F_X9_salt τ) (rest := []) E h (c_X9_salt l D cI cZ z ad σ τ (show 0 ≤ ((τ.2.1 50) 0).toInt ∧ ((τ.2.1 50) 0).toInt ≤ 6 from by omega) (show 0 ≤ ((τ.2.1 50) 1).toInt ∧ ((τ.2.1 50) 1).toInt ≤ 8 from by omega)) mw_1018 cbX9_salt 48 rfl rfl ⟨by decide, by decide⟩ rfl rfl hl.1 (Nat.le_of_ble_eq_true rfl) ⟨Nat.zero_le _, Nat.zero_le _⟩ dX9_now_102 (fun v11 huv11 H locs h => ?_)
                    have hF : F_X9_now_k102_12 (fun y1 y2 y3 => F_X9_now_L7  n7 τ a1 y1 y2 y3) τ a1 x4_7 x3_7 x2_7 v11 = (F_X9_now τ a1) := by rw [← huv11]; exact hF
                    exact g_iret E hr hlk h hQ (fst_of hF) (snd_of hF (fun u => gws ad cI cZ σ u)) dX9_now_105
                  · have it10 : a1.toInt ≠ 5 := i_ne t10
                    have hF := (if_neg t10).symm.trans hF
                    refine lv_tableOut (tgt := 106) hx hb dX9_now_39 (by omega) (by decide) ?_
                    refine lv_iconst (v := (-1)) hx hb dX9_now_106 (by decide) ?_
                    exact g_iret E hr hlk h hQ (fst_of hF) (snd_of hF (fun u => gws ad cI cZ σ u)) dX9_now_107
      · have ic2 : x4_7.toInt < 6 := i_nle c2
        have hF := (if_neg c2).symm.trans hF
        refine lv_iload_n hx hb dX9_now_14 rfl (lv_at hl 2 rfl) ?_
        refine lv_aload_n hx hb dX9_now_15 rfl (lv_at hl 3 rfl) ?_
        refine lv_iload hx hb dX9_now_16 (lv_at hl 0 rfl) ?_
        refine g_callVh (F_X9_knotsAt τ x4_7) (rest := [.int x2_7]) E h (c_X9_knotsAt l D cI cZ z ad σ τ x4_7 (show 0 ≤ x4_7.toInt ∧ x4_7.toInt < 6 from by omega)) mw_931 cbX9_knotsAt 48 rfl rfl ⟨by decide, by decide⟩ rfl rfl hl.1 (Nat.le_of_ble_eq_true rfl) ⟨Nat.zero_le _, Nat.zero_le _⟩ dX9_now_18 (fun v13 huv13 H locs h => ?_)
        have hF : F_X9_now_k18_14 (fun y1 y2 y3 => F_X9_now_L7  n7 τ a1 y1 y2 y3) τ a1 x4_7 x3_7 x2_7 v13 = (F_X9_now τ a1) := by rw [← huv13]; exact hF
        refine lv_iadd hx hb dX9_now_21 ?_
        refine lv_istore_n (lv' := [(2, .int (x2_7 + v13)), (4, .int x4_7), (3, .int x3_7), (0, .ref (ad 48)), (1, .int a1)]) hx hb dX9_now_22 rfl hl (by decide) rfl (fun ls hl => ?_)
        refine lv_iload_n hx hb dX9_now_23 rfl (lv_at hl 2 rfl) ?_
        refine lv_aload_n hx hb dX9_now_24 rfl (lv_at hl 3 rfl) ?_
        refine lv_iload hx hb dX9_now_25 (lv_at hl 1 rfl) ?_
        refine g_callVh (F_X9_duesOf τ x4_7) (rest := [.int x3_7]) E h (c_X9_duesOf l D cI cZ z ad σ τ x4_7 (show 0 ≤ x4_7.toInt ∧ x4_7.toInt < 6 from by omega)) mw_935 cbX9_duesOf 48 rfl rfl ⟨by decide, by decide⟩ rfl rfl hl.1 (Nat.le_of_ble_eq_true rfl) ⟨Nat.zero_le _, Nat.zero_le _⟩ dX9_now_27 (fun v15 huv15 H locs h => ?_)
        have hF : F_X9_now_k27_16 (fun y1 y2 y3 => F_X9_now_L7  n7 τ a1 y1 y2 y3) τ a1 x4_7 x3_7 x2_7 v13 v15 = (F_X9_now τ a1) := by rw [← huv15]; exact hF
        refine lv_iadd hx hb dX9_now_30 ?_
        refine lv_istore_n (lv' := [(3, .int (x3_7 + v15)), (2, .int (x2_7 + v13)), (4, .int x4_7), (0, .ref (ad 48)), (1, .int a1)]) hx hb dX9_now_31 rfl hl (by decide) rfl (fun ls hl => ?_)
        refine lv_iinc (v := (x4_7 + (1 : Int32))) (lv' := [(4, .int (x4_7 + (1 : Int32))), (3, .int (x3_7 + v15)), (2, .int (x2_7 + v13)), (0, .ref (ad 48)), (1, .int a1)]) hx hb dX9_now_32 hl (k := 2) rfl rfl (by decide) rfl (fun ls hl => ?_)
        refine lv_goto (tgt := 7) hx hb dX9_now_35 (by decide) ?_
        have e7_4 : (x4_7 + (1 : Int32)).toInt = _ := ti_of (oI_add (oI_at x4_7) (oI_lit (x := 1) (a := 1) rfl)) (by omega)
        exact ih7 (x4_7 + (1 : Int32)) (x3_7 + v15) (x2_7 + v13) _ _ ls ((show 0 ≤ (x4_7 + (1 : Int32)).toInt ∧ (x4_7 + (1 : Int32)).toInt ≤ 6 ∧ (x4_7 + (1 : Int32)).toInt + n7 = 7 from by omega)) hF h (lv_sub hl [0, 1, 2, 3, 4] rfl)
  have q7_4 : (0 : Int32).toInt = 0 := rfl
  exact L7 7 (0 : Int32) (0 : Int32) (0 : Int32) _ _ ls ((show 0 ≤ (0 : Int32).toInt ∧ (0 : Int32).toInt ≤ 6 ∧ (0 : Int32).toInt + (7 : Nat) = 7 from by omega)) hF h (lv_sub hl [0, 1, 2, 3, 4] rfl)
