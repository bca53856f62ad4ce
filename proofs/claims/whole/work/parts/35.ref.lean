def mr_X5_move (P : Nat → Nat) (sg : wk_Sg) (a1 : Int32) (a2 : Int32) (a3 : Int32) (a4 : Int32) (a5 : Int32) : Int32 := (if (mr_X5_isAddress P sg a5) = 0 then (mr_X5_trap P sg a1) else (if a2 = 9 then (if (mr_X5_stateOf P sg a1 (a5 / (sg (20, 0, 0) 2))) = 0 then 2 else (mr_X5_done P (wk_up sg (23, 0, 0) (Int32.toNatClampNeg (((4 : Int32) * a1) + a3)) (sg (31, 0, 0) (Int32.toNatClampNeg (((4 : Int32) * (mr_X5_slotOf P sg a1 (a5 / (sg (20, 0, 0) 2)))) + (a5 - a5 / (sg (20, 0, 0) 2) * (sg (20, 0, 0) 2)))))) a1 (((wk_up sg (23, 0, 0) (Int32.toNatClampNeg (((4 : Int32) * a1) + a3)) (sg (31, 0, 0) (Int32.toNatClampNeg (((4 : Int32) * (mr_X5_slotOf P sg a1 (a5 / (sg (20, 0, 0) 2)))) + (a5 - a5 / (sg (20, 0, 0) 2) * (sg (20, 0, 0) 2)))))) (24, 0, 0) (Int32.toNatClampNeg a1)) + (1 : Int32)))) else (if (mr_X5_stateOf P sg a1 (a5 / (sg (20, 0, 0) 2))) = 2 then (if a2 = 10 then (if a2 = 11 then (mr_X5_done P (wk_up (wk_up (wk_up sg (29, 0, 0) (Int32.toNatClampNeg (mr_X5_slotOf P sg a1 (a5 / (sg (20, 0, 0) 2)))) 4) (31, 0, 0) (Int32.toNatClampNeg (((4 : Int32) * (mr_X5_slotOf P sg a1 (a5 / (sg (20, 0, 0) 2)))) + (a5 - a5 / (sg (20, 0, 0) 2) * (sg (20, 0, 0) 2)))) ((wk_up sg (29, 0, 0) (Int32.toNatClampNeg (mr_X5_slotOf P sg a1 (a5 / (sg (20, 0, 0) 2)))) 4) (23, 0, 0) (Int32.toNatClampNeg (((4 : Int32) * a1) + a3)))) (23, 0, 0) (Int32.toNatClampNeg (((4 : Int32) * a1) + a3)) 1) a1 (((wk_up (wk_up (wk_up sg (29, 0, 0) (Int32.toNatClampNeg (mr_X5_slotOf P sg a1 (a5 / (sg (20, 0, 0) 2)))) 4) (31, 0, 0) (Int32.toNatClampNeg (((4 : Int32) * (mr_X5_slotOf P sg a1 (a5 / (sg (20, 0, 0) 2)))) + (a5 - a5 / (sg (20, 0, 0) 2) * (sg (20, 0, 0) 2)))) ((wk_up sg (29, 0, 0) (Int32.toNatClampNeg (mr_X5_slotOf P sg a1 (a5 / (sg (20, 0, 0) 2)))) 4) (23, 0, 0) (Int32.toNatClampNeg (((4 : Int32) * a1) + a3)))) (23, 0, 0) (Int32.toNatClampNeg (((4 : Int32) * a1) + a3)) 1) (24, 0, 0) (Int32.toNatClampNeg a1)) + (1 : Int32))) else (mr_X5_done P (wk_up (wk_up sg (29, 0, 0) (Int32.toNatClampNeg (mr_X5_slotOf P sg a1 (a5 / (sg (20, 0, 0) 2)))) 4) (31, 0, 0) (Int32.toNatClampNeg (((4 : Int32) * (mr_X5_slotOf P sg a1 (a5 / (sg (20, 0, 0) 2)))) + (a5 - a5 / (sg (20, 0, 0) 2) * (sg (20, 0, 0) 2)))) ((wk_up sg (29, 0, 0) (Int32.toNatClampNeg (mr_X5_slotOf P sg a1 (a5 / (sg (20, 0, 0) 2)))) 4) (23, 0, 0) (Int32.toNatClampNeg (((4 : Int32) * a1) + a3)))) a1 (((wk_up (wk_up sg (29, 0, 0) (Int32.toNatClampNeg (mr_X5_slotOf P sg a1 (a5 / (sg (20, 0, 0) 2)))) 4) (31, 0, 0) (Int32.toNatClampNeg (((4 : Int32) * (mr_X5_slotOf P sg a1 (a5 / (sg (20, 0, 0) 2)))) + (a5 - a5 / (sg (20, 0, 0) 2) * (sg (20, 0, 0) 2)))) ((wk_up sg (29, 0, 0) (Int32.toNatClampNeg (mr_X5_slotOf P sg a1 (a5 / (sg (20, 0, 0) 2)))) 4) (23, 0, 0) (Int32.toNatClampNeg (((4 : Int32) * a1) + a3)))) (24, 0, 0) (Int32.toNatClampNeg a1)) + (1 : Int32)))) else (if ((wk_up sg (29, 0, 0) (Int32.toNatClampNeg (mr_X5_slotOf P sg a1 (a5 / (sg (20, 0, 0) 2)))) 4) (31, 0, 0) (Int32.toNatClampNeg (((4 : Int32) * (mr_X5_slotOf P sg a1 (a5 / (sg (20, 0, 0) 2)))) + (a5 - a5 / (sg (20, 0, 0) 2) * (sg (20, 0, 0) 2))))) = a4 then (if a2 = 11 then (mr_X5_done P (wk_up (wk_up (wk_up sg (29, 0, 0) (Int32.toNatClampNeg (mr_X5_slotOf P sg a1 (a5 / (sg (20, 0, 0) 2)))) 4) (31, 0, 0) (Int32.toNatClampNeg (((4 : Int32) * (mr_X5_slotOf P sg a1 (a5 / (sg (20, 0, 0) 2)))) + (a5 - a5 / (sg (20, 0, 0) 2) * (sg (20, 0, 0) 2)))) ((wk_up sg (29, 0, 0) (Int32.toNatClampNeg (mr_X5_slotOf P sg a1 (a5 / (sg (20, 0, 0) 2)))) 4) (23, 0, 0) (Int32.toNatClampNeg (((4 : Int32) * a1) + a3)))) (23, 0, 0) (Int32.toNatClampNeg (((4 : Int32) * a1) + a3)) 1) a1 (((wk_up (wk_up (wk_up sg (29, 0, 0) (Int32.toNatClampNeg (mr_X5_slotOf P sg a1 (a5 / (sg (20, 0, 0) 2)))) 4) (31, 0, 0) (Int32.toNatClampNeg (((4 : Int32) * (mr_X5_slotOf P sg a1 (a5 / (sg (20, 0, 0) 2)))) + (a5 - a5 / (sg (20, 0, 0) 2) * (sg (20, 0, 0) 2)))) ((wk_up sg (29, 0, 0) (Int32.toNatClampNeg (mr_X5_slotOf P sg a1 (a5 / (sg (20, 0, 0) 2)))) 4) (23, 0, 0) (Int32.toNatClampNeg (((4 : Int32) * a1) + a3)))) (23, 0, 0) (Int32.toNatClampNeg (((4 : Int32) * a1) + a3)) 1) (24, 0, 0) (Int32.toNatClampNeg a1)) + (1 : Int32))) else (mr_X5_done P (wk_up (wk_up sg (29, 0, 0) (Int32.toNatClampNeg (mr_X5_slotOf P sg a1 (a5 / (sg (20, 0, 0) 2)))) 4) (31, 0, 0) (Int32.toNatClampNeg (((4 : Int32) * (mr_X5_slotOf P sg a1 (a5 / (sg (20, 0, 0) 2)))) + (a5 - a5 / (sg (20, 0, 0) 2) * (sg (20, 0, 0) 2)))) ((wk_up sg (29, 0, 0) (Int32.toNatClampNeg (mr_X5_slotOf P sg a1 (a5 / (sg (20, 0, 0) 2)))) 4) (23, 0, 0) (Int32.toNatClampNeg (((4 : Int32) * a1) + a3)))) a1 (((wk_up (wk_up sg (29, 0, 0) (Int32.toNatClampNeg (mr_X5_slotOf P sg a1 (a5 / (sg (20, 0, 0) 2)))) 4) (31, 0, 0) (Int32.toNatClampNeg (((4 : Int32) * (mr_X5_slotOf P sg a1 (a5 / (sg (20, 0, 0) 2)))) + (a5 - a5 / (sg (20, 0, 0) 2) * (sg (20, 0, 0) 2)))) ((wk_up sg (29, 0, 0) (Int32.toNatClampNeg (mr_X5_slotOf P sg a1 (a5 / (sg (20, 0, 0) 2)))) 4) (23, 0, 0) (Int32.toNatClampNeg (((4 : Int32) * a1) + a3)))) (24, 0, 0) (Int32.toNatClampNeg a1)) + (1 : Int32)))) else (if a2 = 11 then (mr_X5_done P (wk_up (wk_up sg (29, 0, 0) (Int32.toNatClampNeg (mr_X5_slotOf P sg a1 (a5 / (sg (20, 0, 0) 2)))) 4) (23, 0, 0) (Int32.toNatClampNeg (((4 : Int32) * a1) + a3)) 0) a1 (((wk_up (wk_up sg (29, 0, 0) (Int32.toNatClampNeg (mr_X5_slotOf P sg a1 (a5 / (sg (20, 0, 0) 2)))) 4) (23, 0, 0) (Int32.toNatClampNeg (((4 : Int32) * a1) + a3)) 0) (24, 0, 0) (Int32.toNatClampNeg a1)) + (1 : Int32))) else (mr_X5_done P (wk_up sg (29, 0, 0) (Int32.toNatClampNeg (mr_X5_slotOf P sg a1 (a5 / (sg (20, 0, 0) 2)))) 4) a1 (((wk_up sg (29, 0, 0) (Int32.toNatClampNeg (mr_X5_slotOf P sg a1 (a5 / (sg (20, 0, 0) 2)))) 4) (24, 0, 0) (Int32.toNatClampNeg a1)) + (1 : Int32)))))) else (if (mr_X5_stateOf P sg a1 (a5 / (sg (20, 0, 0) 2))) = 4 then (if a2 = 10 then (if a2 = 11 then (mr_X5_done P (wk_up (wk_up (wk_up sg (29, 0, 0) (Int32.toNatClampNeg (mr_X5_slotOf P sg a1 (a5 / (sg (20, 0, 0) 2)))) 4) (31, 0, 0) (Int32.toNatClampNeg (((4 : Int32) * (mr_X5_slotOf P sg a1 (a5 / (sg (20, 0, 0) 2)))) + (a5 - a5 / (sg (20, 0, 0) 2) * (sg (20, 0, 0) 2)))) ((wk_up sg (29, 0, 0) (Int32.toNatClampNeg (mr_X5_slotOf P sg a1 (a5 / (sg (20, 0, 0) 2)))) 4) (23, 0, 0) (Int32.toNatClampNeg (((4 : Int32) * a1) + a3)))) (23, 0, 0) (Int32.toNatClampNeg (((4 : Int32) * a1) + a3)) 1) a1 (((wk_up (wk_up (wk_up sg (29, 0, 0) (Int32.toNatClampNeg (mr_X5_slotOf P sg a1 (a5 / (sg (20, 0, 0) 2)))) 4) (31, 0, 0) (Int32.toNatClampNeg (((4 : Int32) * (mr_X5_slotOf P sg a1 (a5 / (sg (20, 0, 0) 2)))) + (a5 - a5 / (sg (20, 0, 0) 2) * (sg (20, 0, 0) 2)))) ((wk_up sg (29, 0, 0) (Int32.toNatClampNeg (mr_X5_slotOf P sg a1 (a5 / (sg (20, 0, 0) 2)))) 4) (23, 0, 0) (Int32.toNatClampNeg (((4 : Int32) * a1) + a3)))) (23, 0, 0) (Int32.toNatClampNeg (((4 : Int32) * a1) + a3)) 1) (24, 0, 0) (Int32.toNatClampNeg a1)) + (1 : Int32))) else (mr_X5_done P (wk_up (wk_up sg (29, 0, 0) (Int32.toNatClampNeg (mr_X5_slotOf P sg a1 (a5 / (sg (20, 0, 0) 2)))) 4) (31, 0, 0) (Int32.toNatClampNeg (((4 : Int32) * (mr_X5_slotOf P sg a1 (a5 / (sg (20, 0, 0) 2)))) + (a5 - a5 / (sg (20, 0, 0) 2) * (sg (20, 0, 0) 2)))) ((wk_up sg (29, 0, 0) (Int32.toNatClampNeg (mr_X5_slotOf P sg a1 (a5 / (sg (20, 0, 0) 2)))) 4) (23, 0, 0) (Int32.toNatClampNeg (((4 : Int32) * a1) + a3)))) a1 (((wk_up (wk_up sg (29, 0, 0) (Int32.toNatClampNeg (mr_X5_slotOf P sg a1 (a5 / (sg (20, 0, 0) 2)))) 4) (31, 0, 0) (Int32.toNatClampNeg (((4 : Int32) * (mr_X5_slotOf P sg a1 (a5 / (sg (20, 0, 0) 2)))) + (a5 - a5 / (sg (20, 0, 0) 2) * (sg (20, 0, 0) 2)))) ((wk_up sg (29, 0, 0) (Int32.toNatClampNeg (mr_X5_slotOf P sg a1 (a5 / (sg (20, 0, 0) 2)))) 4) (23, 0, 0) (Int32.toNatClampNeg (((4 : Int32) * a1) + a3)))) (24, 0, 0) (Int32.toNatClampNeg a1)) + (1 : Int32)))) else (if ((wk_up sg (29, 0, 0) (Int32.toNatClampNeg (mr_X5_slotOf P sg a1 (a5 / (sg (20, 0, 0) 2)))) 4) (31, 0, 0) (Int32.toNatClampNeg (((4 : Int32) * (mr_X5_slotOf P sg a1 (a5 / (sg (20, 0, 0) 2)))) + (a5 - a5 / (sg (20, 0, 0) 2) * (sg (20, 0, 0) 2))))) = a4 then (if a2 = 11 then (mr_X5_done P (wk_up (wk_up (wk_up sg (29, 0, 0) (Int32.toNatClampNeg (mr_X5_slotOf P sg a1 (a5 / (sg (20, 0, 0) 2)))) 4) (31, 0, 0) (Int32.toNatClampNeg (((4 : Int32) * (mr_X5_slotOf P sg a1 (a5 / (sg (20, 0, 0) 2)))) + (a5 - a5 / (sg (20, 0, 0) 2) * (sg (20, 0, 0) 2)))) ((wk_up sg (29, 0, 0) (Int32.toNatClampNeg (mr_X5_slotOf P sg a1 (a5 / (sg (20, 0, 0) 2)))) 4) (23, 0, 0) (Int32.toNatClampNeg (((4 : Int32) * a1) + a3)))) (23, 0, 0) (Int32.toNatClampNeg (((4 : Int32) * a1) + a3)) 1) a1 (((wk_up (wk_up (wk_up sg (29, 0, 0) (Int32.toNatClampNeg (mr_X5_slotOf P sg a1 (a5 / (sg (20, 0, 0) 2)))) 4) (31, 0, 0) (Int32.toNatClampNeg (((4 : Int32) * (mr_X5_slotOf P sg a1 (a5 / (sg (20, 0, 0) 2)))) + (a5 - a5 / (sg (20, 0, 0) 2) * (sg (20, 0, 0) 2)))) ((wk_up sg (29, 0, 0) (Int32.toNatClampNeg (mr_X5_slotOf P sg a1 (a5 / (sg (20, 0, 0) 2)))) 4) (23, 0, 0) (Int32.toNatClampNeg (((4 : Int32) * a1) + a3)))) (23, 0, 0) (Int32.toNatClampNeg (((4 : Int32) * a1) + a3)) 1) (24, 0, 0) (Int32.toNatClampNeg a1)) + (1 : Int32))) else (mr_X5_done P (wk_up (wk_up sg (29, 0, 0) (Int32.toNatClampNeg (mr_X5_slotOf P sg a1 (a5 / (sg (20, 0, 0) 2)))) 4) (31, 0, 0) (Int32.toNatClampNeg (((4 : Int32) * (mr_X5_slotOf P sg a1 (a5 / (sg (20, 0, 0) 2)))) + (a5 - a5 / (sg (20, 0, 0) 2) * (sg (20, 0, 0) 2)))) ((wk_up sg (29, 0, 0) (Int32.toNatClampNeg (mr_X5_slotOf P sg a1 (a5 / (sg (20, 0, 0) 2)))) 4) (23, 0, 0) (Int32.toNatClampNeg (((4 : Int32) * a1) + a3)))) a1 (((wk_up (wk_up sg (29, 0, 0) (Int32.toNatClampNeg (mr_X5_slotOf P sg a1 (a5 / (sg (20, 0, 0) 2)))) 4) (31, 0, 0) (Int32.toNatClampNeg (((4 : Int32) * (mr_X5_slotOf P sg a1 (a5 / (sg (20, 0, 0) 2)))) + (a5 - a5 / (sg (20, 0, 0) 2) * (sg (20, 0, 0) 2)))) ((wk_up sg (29, 0, 0) (Int32.toNatClampNeg (mr_X5_slotOf P sg a1 (a5 / (sg (20, 0, 0) 2)))) 4) (23, 0, 0) (Int32.toNatClampNeg (((4 : Int32) * a1) + a3)))) (24, 0, 0) (Int32.toNatClampNeg a1)) + (1 : Int32)))) else (if a2 = 11 then (mr_X5_done P (wk_up (wk_up sg (29, 0, 0) (Int32.toNatClampNeg (mr_X5_slotOf P sg a1 (a5 / (sg (20, 0, 0) 2)))) 4) (23, 0, 0) (Int32.toNatClampNeg (((4 : Int32) * a1) + a3)) 0) a1 (((wk_up (wk_up sg (29, 0, 0) (Int32.toNatClampNeg (mr_X5_slotOf P sg a1 (a5 / (sg (20, 0, 0) 2)))) 4) (23, 0, 0) (Int32.toNatClampNeg (((4 : Int32) * a1) + a3)) 0) (24, 0, 0) (Int32.toNatClampNeg a1)) + (1 : Int32))) else (mr_X5_done P (wk_up sg (29, 0, 0) (Int32.toNatClampNeg (mr_X5_slotOf P sg a1 (a5 / (sg (20, 0, 0) 2)))) 4) a1 (((wk_up sg (29, 0, 0) (Int32.toNatClampNeg (mr_X5_slotOf P sg a1 (a5 / (sg (20, 0, 0) 2)))) 4) (24, 0, 0) (Int32.toNatClampNeg a1)) + (1 : Int32)))))) else 2))))
def ms_X5_move (P : Nat → Nat) (sg : wk_Sg) (a1 : Int32) (a2 : Int32) (a3 : Int32) (a4 : Int32) (a5 : Int32) : wk_Sg := (if (mr_X5_isAddress P sg a5) = 0 then (ms_X5_trap P sg a1) else (if a2 = 9 then (if (mr_X5_stateOf P sg a1 (a5 / (sg (20, 0, 0) 2))) = 0 then (wk_up (wk_up (wk_up sg (25, 0, 0) (Int32.toNatClampNeg a1) 1) (27, 0, 0) (Int32.toNatClampNeg a1) 1) (28, 0, 0) (Int32.toNatClampNeg a1) (a5 / (sg (20, 0, 0) 2))) else (ms_X5_done P (wk_up sg (23, 0, 0) (Int32.toNatClampNeg (((4 : Int32) * a1) + a3)) (sg (31, 0, 0) (Int32.toNatClampNeg (((4 : Int32) * (mr_X5_slotOf P sg a1 (a5 / (sg (20, 0, 0) 2)))) + (a5 - a5 / (sg (20, 0, 0) 2) * (sg (20, 0, 0) 2)))))) a1 (((wk_up sg (23, 0, 0) (Int32.toNatClampNeg (((4 : Int32) * a1) + a3)) (sg (31, 0, 0) (Int32.toNatClampNeg (((4 : Int32) * (mr_X5_slotOf P sg a1 (a5 / (sg (20, 0, 0) 2)))) + (a5 - a5 / (sg (20, 0, 0) 2) * (sg (20, 0, 0) 2)))))) (24, 0, 0) (Int32.toNatClampNeg a1)) + (1 : Int32)))) else (if (mr_X5_stateOf P sg a1 (a5 / (sg (20, 0, 0) 2))) = 2 then (if a2 = 10 then (if a2 = 11 then (ms_X5_done P (wk_up (wk_up (wk_up sg (29, 0, 0) (Int32.toNatClampNeg (mr_X5_slotOf P sg a1 (a5 / (sg (20, 0, 0) 2)))) 4) (31, 0, 0) (Int32.toNatClampNeg (((4 : Int32) * (mr_X5_slotOf P sg a1 (a5 / (sg (20, 0, 0) 2)))) + (a5 - a5 / (sg (20, 0, 0) 2) * (sg (20, 0, 0) 2)))) ((wk_up sg (29, 0, 0) (Int32.toNatClampNeg (mr_X5_slotOf P sg a1 (a5 / (sg (20, 0, 0) 2)))) 4) (23, 0, 0) (Int32.toNatClampNeg (((4 : Int32) * a1) + a3)))) (23, 0, 0) (Int32.toNatClampNeg (((4 : Int32) * a1) + a3)) 1) a1 (((wk_up (wk_up (wk_up sg (29, 0, 0) (Int32.toNatClampNeg (mr_X5_slotOf P sg a1 (a5 / (sg (20, 0, 0) 2)))) 4) (31, 0, 0) (Int32.toNatClampNeg (((4 : Int32) * (mr_X5_slotOf P sg a1 (a5 / (sg (20, 0, 0) 2)))) + (a5 - a5 / (sg (20, 0, 0) 2) * (sg (20, 0, 0) 2)))) ((wk_up sg (29, 0, 0) (Int32.toNatClampNeg (mr_X5_slotOf P sg a1 (a5 / (sg (20, 0, 0) 2)))) 4) (23, 0, 0) (Int32.toNatClampNeg (((4 : Int32) * a1) + a3)))) (23, 0, 0) (Int32.toNatClampNeg (((4 : Int32) * a1) + a3)) 1) (24, 0, 0) (Int32.toNatClampNeg a1)) + (1 : Int32))) else (ms_X5_done P (wk_up (wk_up sg (29, 0, 0) (Int32.toNatClampNeg (mr_X5_slotOf P sg a1 (a5 / (sg (20, 0, 0) 2)))) 4) (31, 0, 0) (Int32.toNatClampNeg (((4 : Int32) * (mr_X5_slotOf P sg a1 (a5 / (sg (20, 0, 0) 2)))) + (a5 - a5 / (sg (20, 0, 0) 2) * (sg (20, 0, 0) 2)))) ((wk_up sg (29, 0, 0) (Int32.toNatClampNeg (mr_X5_slotOf P sg a1 (a5 / (sg (20, 0, 0) 2)))) 4) (23, 0, 0) (Int32.toNatClampNeg (((4 : Int32) * a1) + a3)))) a1 (((wk_up (wk_up sg (29, 0, 0) (Int32.toNatClampNeg (mr_X5_slotOf P sg a1 (a5 / (sg (20, 0, 0) 2)))) 4) (31, 0, 0) (Int32.toNatClampNeg (((4 : Int32) * (mr_X5_slotOf P sg a1 (a5 / (sg (20, 0, 0) 2)))) + (a5 - a5 / (sg (20, 0, 0) 2) * (sg (20, 0, 0) 2)))) ((wk_up sg (29, 0, 0) (Int32.toNatClampNeg (mr_X5_slotOf P sg a1 (a5 / (sg (20, 0, 0) 2)))) 4) (23, 0, 0) (Int32.toNatClampNeg (((4 : Int32) * a1) + a3)))) (24, 0, 0) (Int32.toNatClampNeg a1)) + (1 : Int32)))) else (if ((wk_up sg (29, 0, 0) (Int32.toNatClampNeg (mr_X5_slotOf P sg a1 (a5 / (sg (20, 0, 0) 2)))) 4) (31, 0, 0) (Int32.toNatClampNeg (((4 : Int32) * (mr_X5_slotOf P sg a1 (a5 / (sg (20, 0, 0) 2)))) + (a5 - a5 / (sg (20, 0, 0) 2) * (sg (20, 0, 0) 2))))) = a4 then (if a2 = 11 then (ms_X5_done P (wk_up (wk_up (wk_up sg (29, 0, 0) (Int32.toNatClampNeg (mr_X5_slotOf P sg a1 (a5 / (sg (20, 0, 0) 2)))) 4) (31, 0, 0) (Int32.toNatClampNeg (((4 : Int32) * (mr_X5_slotOf P sg a1 (a5 / (sg (20, 0, 0) 2)))) + (a5 - a5 / (sg (20, 0, 0) 2) * (sg (20, 0, 0) 2)))) ((wk_up sg (29, 0, 0) (Int32.toNatClampNeg (mr_X5_slotOf P sg a1 (a5 / (sg (20, 0, 0) 2)))) 4) (23, 0, 0) (Int32.toNatClampNeg (((4 : Int32) * a1) + a3)))) (23, 0, 0) (Int32.toNatClampNeg (((4 : Int32) * a1) + a3)) 1) a1 (((wk_up (wk_up (wk_up sg (29, 0, 0) (Int32.toNatClampNeg (mr_X5_slotOf P sg a1 (a5 / (sg (20, 0, 0) 2)))) 4) (31, 0, 0) (Int32.toNatClampNeg (((4 : Int32) * (mr_X5_slotOf P sg a1 (a5 / (sg (20, 0, 0) 2)))) + (a5 - a5 / (sg (20, 0, 0) 2) * (sg (20, 0, 0) 2)))) ((wk_up sg (29, 0, 0) (Int32.toNatClampNeg (mr_X5_slotOf P sg a1 (a5 / (sg (20, 0, 0) 2)))) 4) (23, 0, 0) (Int32.toNatClampNeg (((4 : Int32) * a1) + a3)))) (23, 0, 0) (Int32.toNatClampNeg (((4 : Int32) * a1) + a3)) 1) (24, 0, 0) (Int32.toNatClampNeg a1)) + (1 : Int32))) else (ms_X5_done P (wk_up (wk_up sg (29, 0, 0) (Int32.toNatClampNeg (mr_X5_slotOf P sg a1 (a5 / (sg (20, 0, 0) 2)))) 4) (31, 0, 0) (Int32.toNatClampNeg (((4 : Int32) * (mr_X5_slotOf P sg a1 (a5 / (sg (20, 0, 0) 2)))) + (a5 - a5 / (sg (20, 0, 0) 2) * (sg (20, 0, 0) 2)))) ((wk_up sg (29, 0, 0) (Int32.toNatClampNeg (mr_X5_slotOf P sg a1 (a5 / (sg (20, 0, 0) 2)))) 4) (23, 0, 0) (Int32.toNatClampNeg (((4 : Int32) * a1) + a3)))) a1 (((wk_up (wk_up sg (29, 0, 0) (Int32.toNatClampNeg (mr_X5_slotOf P sg a1 (a5 / (sg (20, 0, 0) 2)))) 4) (31, 0, 0) (Int32.toNatClampNeg (((4 : Int32) * (mr_X5_slotOf P sg a1 (a5 / (sg (20, 0, 0) 2)))) + (a5 - a5 / (sg (20, 0, 0) 2) * (sg (20, 0, 0) 2)))) ((wk_up sg (29, 0, 0) (Int32.toNatClampNeg (mr_X5_slotOf P sg a1 (a5 / (sg (20, 0, 0) 2)))) 4) (23, 0, 0) (Int32.toNatClampNeg (((4 : Int32) * a1) + a3)))) (24, 0, 0) (Int32.toNatClampNeg a1)) + (1 : Int32)))) else (if a2 = 11 then (ms_X5_done P (wk_up (wk_up sg (29, 0, 0) (Int32.toNatClampNeg (mr_X5_slotOf P sg a1 (a5 / (sg (20, 0, 0) 2)))) 4) (23, 0, 0) (Int32.toNatClampNeg (((4 : Int32) * a1) + a3)) 0) a1 (((wk_up (wk_up sg (29, 0, 0) (Int32.toNatClampNeg (mr_X5_slotOf P sg a1 (a5 / (sg (20, 0, 0) 2)))) 4) (23, 0, 0) (Int32.toNatClampNeg (((4 : Int32) * a1) + a3)) 0) (24, 0, 0) (Int32.toNatClampNeg a1)) + (1 : Int32))) else (ms_X5_done P (wk_up sg (29, 0, 0) (Int32.toNatClampNeg (mr_X5_slotOf P sg a1 (a5 / (sg (20, 0, 0) 2)))) 4) a1 (((wk_up sg (29, 0, 0) (Int32.toNatClampNeg (mr_X5_slotOf P sg a1 (a5 / (sg (20, 0, 0) 2)))) 4) (24, 0, 0) (Int32.toNatClampNeg a1)) + (1 : Int32)))))) else (if (mr_X5_stateOf P sg a1 (a5 / (sg (20, 0, 0) 2))) = 4 then (if a2 = 10 then (if a2 = 11 then (ms_X5_done P (wk_up (wk_up (wk_up sg (29, 0, 0) (Int32.toNatClampNeg (mr_X5_slotOf P sg a1 (a5 / (sg (20, 0, 0) 2)))) 4) (31, 0, 0) (Int32.toNatClampNeg (((4 : Int32) * (mr_X5_slotOf P sg a1 (a5 / (sg (20, 0, 0) 2)))) + (a5 - a5 / (sg (20, 0, 0) 2) * (sg (20, 0, 0) 2)))) ((wk_up sg (29, 0, 0) (Int32.toNatClampNeg (mr_X5_slotOf P sg a1 (a5 / (sg (20, 0, 0) 2)))) 4) (23, 0, 0) (Int32.toNatClampNeg (((4 : Int32) * a1) + a3)))) (23, 0, 0) (Int32.toNatClampNeg (((4 : Int32) * a1) + a3)) 1) a1 (((wk_up (wk_up (wk_up sg (29, 0, 0) (Int32.toNatClampNeg (mr_X5_slotOf P sg a1 (a5 / (sg (20, 0, 0) 2)))) 4) (31, 0, 0) (Int32.toNatClampNeg (((4 : Int32) * (mr_X5_slotOf P sg a1 (a5 / (sg (20, 0, 0) 2)))) + (a5 - a5 / (sg (20, 0, 0) 2) * (sg (20, 0, 0) 2)))) ((wk_up sg (29, 0, 0) (Int32.toNatClampNeg (mr_X5_slotOf P sg a1 (a5 / (sg (20, 0, 0) 2)))) 4) (23, 0, 0) (Int32.toNatClampNeg (((4 : Int32) * a1) + a3)))) (23, 0, 0) (Int32.toNatClampNeg (((4 : Int32) * a1) + a3)) 1) (24, 0, 0) (Int32.toNatClampNeg a1)) + (1 : Int32))) else (ms_X5_done P (wk_up (wk_up sg (29, 0, 0) (Int32.toNatClampNeg (mr_X5_slotOf P sg a1 (a5 / (sg (20, 0, 0) 2)))) 4) (31, 0, 0) (Int32.toNatClampNeg (((4 : Int32) * (mr_X5_slotOf P sg a1 (a5 / (sg (20, 0, 0) 2)))) + (a5 - a5 / (sg (20, 0, 0) 2) * (sg (20, 0, 0) 2)))) ((wk_up sg (29, 0, 0) (Int32.toNatClampNeg (mr_X5_slotOf P sg a1 (a5 / (sg (20, 0, 0) 2)))) 4) (23, 0, 0) (Int32.toNatClampNeg (((4 : Int32) * a1) + a3)))) a1 (((wk_up (wk_up sg (29, 0, 0) (Int32.toNatClampNeg (mr_X5_slotOf P sg a1 (a5 / (sg (20, 0, 0) 2)))) 4) (31, 0, 0) (Int32.toNatClampNeg (((4 : Int32) * (mr_X5_slotOf P sg a1 (a5 / (sg (20, 0, 0) 2)))) + (a5 - a5 / (sg (20, 0, 0) 2) * (sg (20, 0, 0) 2)))) ((wk_up sg (29, 0, 0) (Int32.toNatClampNeg (mr_X5_slotOf P sg a1 (a5 / (sg (20, 0, 0) 2)))) 4) (23, 0, 0) (Int32.toNatClampNeg (((4 : Int32) * a1) + a3)))) (24, 0, 0) (Int32.toNatClampNeg a1)) + (1 : Int32)))) else (if ((wk_up sg (29, 0, 0) (Int32.toNatClampNeg (mr_X5_slotOf P sg a1 (a5 / (sg (20, 0, 0) 2)))) 4) (31, 0, 0) (Int32.toNatClampNeg (((4 : Int32) * (mr_X5_slotOf P sg a1 (a5 / (sg (20, 0, 0) 2)))) + (a5 - a5 / (sg (20, 0, 0) 2) * (sg (20, 0, 0) 2))))) = a4 then (if a2 = 11 then (ms_X5_done P (wk_up (wk_up (wk_up sg (29, 0, 0) (Int32.toNatClampNeg (mr_X5_slotOf P sg a1 (a5 / (sg (20, 0, 0) 2)))) 4) (31, 0, 0) (Int32.toNatClampNeg (((4 : Int32) * (mr_X5_slotOf P sg a1 (a5 / (sg (20, 0, 0) 2)))) + (a5 - a5 / (sg (20, 0, 0) 2) * (sg (20, 0, 0) 2)))) ((wk_up sg (29, 0, 0) (Int32.toNatClampNeg (mr_X5_slotOf P sg a1 (a5 / (sg (20, 0, 0) 2)))) 4) (23, 0, 0) (Int32.toNatClampNeg (((4 : Int32) * a1) + a3)))) (23, 0, 0) (Int32.toNatClampNeg (((4 : Int32) * a1) + a3)) 1) a1 (((wk_up (wk_up (wk_up sg (29, 0, 0) (Int32.toNatClampNeg (mr_X5_slotOf P sg a1 (a5 / (sg (20, 0, 0) 2)))) 4) (31, 0, 0) (Int32.toNatClampNeg (((4 : Int32) * (mr_X5_slotOf P sg a1 (a5 / (sg (20, 0, 0) 2)))) + (a5 - a5 / (sg (20, 0, 0) 2) * (sg (20, 0, 0) 2)))) ((wk_up sg (29, 0, 0) (Int32.toNatClampNeg (mr_X5_slotOf P sg a1 (a5 / (sg (20, 0, 0) 2)))) 4) (23, 0, 0) (Int32.toNatClampNeg (((4 : Int32) * a1) + a3)))) (23, 0, 0) (Int32.toNatClampNeg (((4 : Int32) * a1) + a3)) 1) (24, 0, 0) (Int32.toNatClampNeg a1)) + (1 : Int32))) else (ms_X5_done P (wk_up (wk_up sg (29, 0, 0) (Int32.toNatClampNeg (mr_X5_slotOf P sg a1 (a5 / (sg (20, 0, 0) 2)))) 4) (31, 0, 0) (Int32.toNatClampNeg (((4 : Int32) * (mr_X5_slotOf P sg a1 (a5 / (sg (20, 0, 0) 2)))) + (a5 - a5 / (sg (20, 0, 0) 2) * (sg (20, 0, 0) 2)))) ((wk_up sg (29, 0, 0) (Int32.toNatClampNeg (mr_X5_slotOf P sg a1 (a5 / (sg (20, 0, 0) 2)))) 4) (23, 0, 0) (Int32.toNatClampNeg (((4 : Int32) * a1) + a3)))) a1 (((wk_up (wk_up sg (29, 0, 0) (Int32.toNatClampNeg (mr_X5_slotOf P sg a1 (a5 / (sg (20, 0, 0) 2)))) 4) (31, 0, 0) (Int32.toNatClampNeg (((4 : Int32) * (mr_X5_slotOf P sg a1 (a5 / (sg (20, 0, 0) 2)))) + (a5 - a5 / (sg (20, 0, 0) 2) * (sg (20, 0, 0) 2)))) ((wk_up sg (29, 0, 0) (Int32.toNatClampNeg (mr_X5_slotOf P sg a1 (a5 / (sg (20, 0, 0) 2)))) 4) (23, 0, 0) (Int32.toNatClampNeg (((4 : Int32) * a1) + a3)))) (24, 0, 0) (Int32.toNatClampNeg a1)) + (1 : Int32)))) else (if a2 = 11 then (ms_X5_done P (wk_up (wk_up sg (29, 0, 0) (Int32.toNatClampNeg (mr_X5_slotOf P sg a1 (a5 / (sg (20, 0, 0) 2)))) 4) (23, 0, 0) (Int32.toNatClampNeg (((4 : Int32) * a1) + a3)) 0) a1 (((wk_up (wk_up sg (29, 0, 0) (Int32.toNatClampNeg (mr_X5_slotOf P sg a1 (a5 / (sg (20, 0, 0) 2)))) 4) (23, 0, 0) (Int32.toNatClampNeg (((4 : Int32) * a1) + a3)) 0) (24, 0, 0) (Int32.toNatClampNeg a1)) + (1 : Int32))) else (ms_X5_done P (wk_up sg (29, 0, 0) (Int32.toNatClampNeg (mr_X5_slotOf P sg a1 (a5 / (sg (20, 0, 0) 2)))) 4) a1 (((wk_up sg (29, 0, 0) (Int32.toNatClampNeg (mr_X5_slotOf P sg a1 (a5 / (sg (20, 0, 0) 2)))) 4) (24, 0, 0) (Int32.toNatClampNeg a1)) + (1 : Int32)))))) else (wk_up (wk_up (wk_up sg (25, 0, 0) (Int32.toNatClampNeg a1) 1) (27, 0, 0) (Int32.toNatClampNeg a1) 2) (28, 0, 0) (Int32.toNatClampNeg a1) (a5 / (sg (20, 0, 0) 2)))))))
def mg_X5_move (P : Nat → Nat) (sg : wk_Sg) (a1 : Int32) (a2 : Int32) (a3 : Int32) (a4 : Int32) (a5 : Int32) : Prop := (((mr_X5_isAddress P sg a5) = 0 → (mg_X5_trap P sg a1 ∧ True)) ∧ (¬ (mr_X5_isAddress P sg a5) = 0 → (¬ (sg (20, 0, 0) 2) = 0 ∧ (mg_X5_stateOf P sg a1 (a5 / (sg (20, 0, 0) 2)) ∧ ((a2 = 9 → (((mr_X5_stateOf P sg a1 (a5 / (sg (20, 0, 0) 2))) = 0 → (vp_in a1 4 ∧ (vp_in a1 4 ∧ (vp_in a1 4 ∧ True)))) ∧ (¬ (mr_X5_stateOf P sg a1 (a5 / (sg (20, 0, 0) 2))) = 0 → (mg_X5_slotOf P sg a1 (a5 / (sg (20, 0, 0) 2)) ∧ (¬ (sg (20, 0, 0) 2) = 0 ∧ (vp_in (((4 : Int32) * (mr_X5_slotOf P sg a1 (a5 / (sg (20, 0, 0) 2)))) + (a5 - a5 / (sg (20, 0, 0) 2) * (sg (20, 0, 0) 2))) 128 ∧ (vp_in (((4 : Int32) * a1) + a3) 16 ∧ (vp_in a1 4 ∧ (mg_X5_done P (wk_up sg (23, 0, 0) (Int32.toNatClampNeg (((4 : Int32) * a1) + a3)) (sg (31, 0, 0) (Int32.toNatClampNeg (((4 : Int32) * (mr_X5_slotOf P sg a1 (a5 / (sg (20, 0, 0) 2)))) + (a5 - a5 / (sg (20, 0, 0) 2) * (sg (20, 0, 0) 2)))))) a1 (((wk_up sg (23, 0, 0) (Int32.toNatClampNeg (((4 : Int32) * a1) + a3)) (sg (31, 0, 0) (Int32.toNatClampNeg (((4 : Int32) * (mr_X5_slotOf P sg a1 (a5 / (sg (20, 0, 0) 2)))) + (a5 - a5 / (sg (20, 0, 0) 2) * (sg (20, 0, 0) 2)))))) (24, 0, 0) (Int32.toNatClampNeg a1)) + (1 : Int32)) ∧ True))))))))) ∧ (¬ a2 = 9 → (((mr_X5_stateOf P sg a1 (a5 / (sg (20, 0, 0) 2))) = 2 → (mg_X5_slotOf P sg a1 (a5 / (sg (20, 0, 0) 2)) ∧ (¬ (sg (20, 0, 0) 2) = 0 ∧ (vp_in (mr_X5_slotOf P sg a1 (a5 / (sg (20, 0, 0) 2))) 32 ∧ ((a2 = 10 → (vp_in (((4 : Int32) * a1) + a3) 16 ∧ (vp_in (((4 : Int32) * (mr_X5_slotOf P sg a1 (a5 / (sg (20, 0, 0) 2)))) + (a5 - a5 / (sg (20, 0, 0) 2) * (sg (20, 0, 0) 2))) 128 ∧ ((a2 = 11 → (vp_in (((4 : Int32) * a1) + a3) 16 ∧ (vp_in a1 4 ∧ (mg_X5_done P (wk_up (wk_up (wk_up sg (29, 0, 0) (Int32.toNatClampNeg (mr_X5_slotOf P sg a1 (a5 / (sg (20, 0, 0) 2)))) 4) (31, 0, 0) (Int32.toNatClampNeg (((4 : Int32) * (mr_X5_slotOf P sg a1 (a5 / (sg (20, 0, 0) 2)))) + (a5 - a5 / (sg (20, 0, 0) 2) * (sg (20, 0, 0) 2)))) ((wk_up sg (29, 0, 0) (Int32.toNatClampNeg (mr_X5_slotOf P sg a1 (a5 / (sg (20, 0, 0) 2)))) 4) (23, 0, 0) (Int32.toNatClampNeg (((4 : Int32) * a1) + a3)))) (23, 0, 0) (Int32.toNatClampNeg (((4 : Int32) * a1) + a3)) 1) a1 (((wk_up (wk_up (wk_up sg (29, 0, 0) (Int32.toNatClampNeg (mr_X5_slotOf P sg a1 (a5 / (sg (20, 0, 0) 2)))) 4) (31, 0, 0) (Int32.toNatClampNeg (((4 : Int32) * (mr_X5_slotOf P sg a1 (a5 / (sg (20, 0, 0) 2)))) + (a5 - a5 / (sg (20, 0, 0) 2) * (sg (20, 0, 0) 2)))) ((wk_up sg (29, 0, 0) (Int32.toNatClampNeg (mr_X5_slotOf P sg a1 (a5 / (sg (20, 0, 0) 2)))) 4) (23, 0, 0) (Int32.toNatClampNeg (((4 : Int32) * a1) + a3)))) (23, 0, 0) (Int32.toNatClampNeg (((4 : Int32) * a1) + a3)) 1) (24, 0, 0) (Int32.toNatClampNeg a1)) + (1 : Int32)) ∧ True)))) ∧ (¬ a2 = 11 → (vp_in a1 4 ∧ (mg_X5_done P (wk_up (wk_up sg (29, 0, 0) (Int32.toNatClampNeg (mr_X5_slotOf P sg a1 (a5 / (sg (20, 0, 0) 2)))) 4) (31, 0, 0) (Int32.toNatClampNeg (((4 : Int32) * (mr_X5_slotOf P sg a1 (a5 / (sg (20, 0, 0) 2)))) + (a5 - a5 / (sg (20, 0, 0) 2) * (sg (20, 0, 0) 2)))) ((wk_up sg (29, 0, 0) (Int32.toNatClampNeg (mr_X5_slotOf P sg a1 (a5 / (sg (20, 0, 0) 2)))) 4) (23, 0, 0) (Int32.toNatClampNeg (((4 : Int32) * a1) + a3)))) a1 (((wk_up (wk_up sg (29, 0, 0) (Int32.toNatClampNeg (mr_X5_slotOf P sg a1 (a5 / (sg (20, 0, 0) 2)))) 4) (31, 0, 0) (Int32.toNatClampNeg (((4 : Int32) * (mr_X5_slotOf P sg a1 (a5 / (sg (20, 0, 0) 2)))) + (a5 - a5 / (sg (20, 0, 0) 2) * (sg (20, 0, 0) 2)))) ((wk_up sg (29, 0, 0) (Int32.toNatClampNeg (mr_X5_slotOf P sg a1 (a5 / (sg (20, 0, 0) 2)))) 4) (23, 0, 0) (Int32.toNatClampNeg (((4 : Int32) * a1) + a3)))) (24, 0, 0) (Int32.toNatClampNeg a1)) + (1 : Int32)) ∧ True))))))) ∧ (¬ a2 = 10 → (vp_in (((4 : Int32) * (mr_X5_slotOf P sg a1 (a5 / (sg (20, 0, 0) 2)))) + (a5 - a5 / (sg (20, 0, 0) 2) * (sg (20, 0, 0) 2))) 128 ∧ ((((wk_up sg (29, 0, 0) (Int32.toNatClampNeg (mr_X5_slotOf P sg a1 (a5 / (sg (20, 0, 0) 2)))) 4) (31, 0, 0) (Int32.toNatClampNeg (((4 : Int32) * (mr_X5_slotOf P sg a1 (a5 / (sg (20, 0, 0) 2)))) + (a5 - a5 / (sg (20, 0, 0) 2) * (sg (20, 0, 0) 2))))) = a4 → (vp_in (((4 : Int32) * a1) + a3) 16 ∧ (vp_in (((4 : Int32) * (mr_X5_slotOf P sg a1 (a5 / (sg (20, 0, 0) 2)))) + (a5 - a5 / (sg (20, 0, 0) 2) * (sg (20, 0, 0) 2))) 128 ∧ ((a2 = 11 → (vp_in (((4 : Int32) * a1) + a3) 16 ∧ (vp_in a1 4 ∧ (mg_X5_done P (wk_up (wk_up (wk_up sg (29, 0, 0) (Int32.toNatClampNeg (mr_X5_slotOf P sg a1 (a5 / (sg (20, 0, 0) 2)))) 4) (31, 0, 0) (Int32.toNatClampNeg (((4 : Int32) * (mr_X5_slotOf P sg a1 (a5 / (sg (20, 0, 0) 2)))) + (a5 - a5 / (sg (20, 0, 0) 2) * (sg (20, 0, 0) 2)))) ((wk_up sg (29, 0, 0) (Int32.toNatClampNeg (mr_X5_slotOf P sg a1 (a5 / (sg (20, 0, 0) 2)))) 4) (23, 0, 0) (Int32.toNatClampNeg (((4 : Int32) * a1) + a3)))) (23, 0, 0) (Int32.toNatClampNeg (((4 : Int32) * a1) + a3)) 1) a1 (((wk_up (wk_up (wk_up sg (29, 0, 0) (Int32.toNatClampNeg (mr_X5_slotOf P sg a1 (a5 / (sg (20, 0, 0) 2)))) 4) (31, 0, 0) (Int32.toNatClampNeg (((4 : Int32) * (mr_X5_slotOf P sg a1 (a5 / (sg (20, 0, 0) 2)))) + (a5 - a5 / (sg (20, 0, 0) 2) * (sg (20, 0, 0) 2)))) ((wk_up sg (29, 0, 0) (Int32.toNatClampNeg (mr_X5_slotOf P sg a1 (a5 / (sg (20, 0, 0) 2)))) 4) (23, 0, 0) (Int32.toNatClampNeg (((4 : Int32) * a1) + a3)))) (23, 0, 0) (Int32.toNatClampNeg (((4 : Int32) * a1) + a3)) 1) (24, 0, 0) (Int32.toNatClampNeg a1)) + (1 : Int32)) ∧ True)))) ∧ (¬ a2 = 11 → (vp_in a1 4 ∧ (mg_X5_done P (wk_up (wk_up sg (29, 0, 0) (Int32.toNatClampNeg (mr_X5_slotOf P sg a1 (a5 / (sg (20, 0, 0) 2)))) 4) (31, 0, 0) (Int32.toNatClampNeg (((4 : Int32) * (mr_X5_slotOf P sg a1 (a5 / (sg (20, 0, 0) 2)))) + (a5 - a5 / (sg (20, 0, 0) 2) * (sg (20, 0, 0) 2)))) ((wk_up sg (29, 0, 0) (Int32.toNatClampNeg (mr_X5_slotOf P sg a1 (a5 / (sg (20, 0, 0) 2)))) 4) (23, 0, 0) (Int32.toNatClampNeg (((4 : Int32) * a1) + a3)))) a1 (((wk_up (wk_up sg (29, 0, 0) (Int32.toNatClampNeg (mr_X5_slotOf P sg a1 (a5 / (sg (20, 0, 0) 2)))) 4) (31, 0, 0) (Int32.toNatClampNeg (((4 : Int32) * (mr_X5_slotOf P sg a1 (a5 / (sg (20, 0, 0) 2)))) + (a5 - a5 / (sg (20, 0, 0) 2) * (sg (20, 0, 0) 2)))) ((wk_up sg (29, 0, 0) (Int32.toNatClampNeg (mr_X5_slotOf P sg a1 (a5 / (sg (20, 0, 0) 2)))) 4) (23, 0, 0) (Int32.toNatClampNeg (((4 : Int32) * a1) + a3)))) (24, 0, 0) (Int32.toNatClampNeg a1)) + (1 : Int32)) ∧ True))))))) ∧ (¬ ((wk_up sg (29, 0, 0) (Int32.toNatClampNeg (mr_X5_slotOf P sg a1 (a5 / (sg (20, 0, 0) 2)))) 4) (31, 0, 0) (Int32.toNatClampNeg (((4 : Int32) * (mr_X5_slotOf P sg a1 (a5 / (sg (20, 0, 0) 2)))) + (a5 - a5 / (sg (20, 0, 0) 2) * (sg (20, 0, 0) 2))))) = a4 → ((a2 = 11 → (vp_in (((4 : Int32) * a1) + a3) 16 ∧ (vp_in a1 4 ∧ (mg_X5_done P (wk_up (wk_up sg (29, 0, 0) (Int32.toNatClampNeg (mr_X5_slotOf P sg a1 (a5 / (sg (20, 0, 0) 2)))) 4) (23, 0, 0) (Int32.toNatClampNeg (((4 : Int32) * a1) + a3)) 0) a1 (((wk_up (wk_up sg (29, 0, 0) (Int32.toNatClampNeg (mr_X5_slotOf P sg a1 (a5 / (sg (20, 0, 0) 2)))) 4) (23, 0, 0) (Int32.toNatClampNeg (((4 : Int32) * a1) + a3)) 0) (24, 0, 0) (Int32.toNatClampNeg a1)) + (1 : Int32)) ∧ True)))) ∧ (¬ a2 = 11 → (vp_in a1 4 ∧ (mg_X5_done P (wk_up sg (29, 0, 0) (Int32.toNatClampNeg (mr_X5_slotOf P sg a1 (a5 / (sg (20, 0, 0) 2)))) 4) a1 (((wk_up sg (29, 0, 0) (Int32.toNatClampNeg (mr_X5_slotOf P sg a1 (a5 / (sg (20, 0, 0) 2)))) 4) (24, 0, 0) (Int32.toNatClampNeg a1)) + (1 : Int32)) ∧ True))))))))))))) ∧ (¬ (mr_X5_stateOf P sg a1 (a5 / (sg (20, 0, 0) 2))) = 2 → (((mr_X5_stateOf P sg a1 (a5 / (sg (20, 0, 0) 2))) = 4 → (mg_X5_slotOf P sg a1 (a5 / (sg (20, 0, 0) 2)) ∧ (¬ (sg (20, 0, 0) 2) = 0 ∧ (vp_in (mr_X5_slotOf P sg a1 (a5 / (sg (20, 0, 0) 2))) 32 ∧ ((a2 = 10 → (vp_in (((4 : Int32) * a1) + a3) 16 ∧ (vp_in (((4 : Int32) * (mr_X5_slotOf P sg a1 (a5 / (sg (20, 0, 0) 2)))) + (a5 - a5 / (sg (20, 0, 0) 2) * (sg (20, 0, 0) 2))) 128 ∧ ((a2 = 11 → (vp_in (((4 : Int32) * a1) + a3) 16 ∧ (vp_in a1 4 ∧ (mg_X5_done P (wk_up (wk_up (wk_up sg (29, 0, 0) (Int32.toNatClampNeg (mr_X5_slotOf P sg a1 (a5 / (sg (20, 0, 0) 2)))) 4) (31, 0, 0) (Int32.toNatClampNeg (((4 : Int32) * (mr_X5_slotOf P sg a1 (a5 / (sg (20, 0, 0) 2)))) + (a5 - a5 / (sg (20, 0, 0) 2) * (sg (20, 0, 0) 2)))) ((wk_up sg (29, 0, 0) (Int32.toNatClampNeg (mr_X5_slotOf P sg a1 (a5 / (sg (20, 0, 0) 2)))) 4) (23, 0, 0) (Int32.toNatClampNeg (((4 : Int32) * a1) + a3)))) (23, 0, 0) (Int32.toNatClampNeg (((4 : Int32) * a1) + a3)) 1) a1 (((wk_up (wk_up (wk_up sg (29, 0, 0) (Int32.toNatClampNeg (mr_X5_slotOf P sg a1 (a5 / (sg (20, 0, 0) 2)))) 4) (31, 0, 0) (Int32.toNatClampNeg (((4 : Int32) * (mr_X5_slotOf P sg a1 (a5 / (sg (20, 0, 0) 2)))) + (a5 - a5 / (sg (20, 0, 0) 2) * (sg (20, 0, 0) 2)))) ((wk_up sg (29, 0, 0) (Int32.toNatClampNeg (mr_X5_slotOf P sg a1 (a5 / (sg (20, 0, 0) 2)))) 4) (23, 0, 0) (Int32.toNatClampNeg (((4 : Int32) * a1) + a3)))) (23, 0, 0) (Int32.toNatClampNeg (((4 : Int32) * a1) + a3)) 1) (24, 0, 0) (Int32.toNatClampNeg a1)) + (1 : Int32)) ∧ True)))) ∧ (¬ a2 = 11 → (vp_in a1 4 ∧ (mg_X5_done P (wk_up (wk_up sg (29, 0, 0) (Int32.toNatClampNeg (mr_X5_slotOf P sg a1 (a5 / (sg (20, 0, 0) 2)))) 4) (31, 0, 0) (Int32.toNatClampNeg (((4 : Int32) * (mr_X5_slotOf P sg a1 (a5 / (sg (20, 0, 0) 2)))) + (a5 - a5 / (sg (20, 0, 0) 2) * (sg (20, 0, 0) 2)))) ((wk_up sg (29, 0, 0) (Int32.toNatClampNeg (mr_X5_slotOf P sg a1 (a5 / (sg (20, 0, 0) 2)))) 4) (23, 0, 0) (Int32.toNatClampNeg (((4 : Int32) * a1) + a3)))) a1 (((wk_up (wk_up sg (29, 0, 0) (Int32.toNatClampNeg (mr_X5_slotOf P sg a1 (a5 / (sg (20, 0, 0) 2)))) 4) (31, 0, 0) (Int32.toNatClampNeg (((4 : Int32) * (mr_X5_slotOf P sg a1 (a5 / (sg (20, 0, 0) 2)))) + (a5 - a5 / (sg (20, 0, 0) 2) * (sg (20, 0, 0) 2)))) ((wk_up sg (29, 0, 0) (Int32.toNatClampNeg (mr_X5_slotOf P sg a1 (a5 / (sg (20, 0, 0) 2)))) 4) (23, 0, 0) (Int32.toNatClampNeg (((4 : Int32) * a1) + a3)))) (24, 0, 0) (Int32.toNatClampNeg a1)) + (1 : Int32)) ∧ True))))))) ∧ (¬ a2 = 10 → (vp_in (((4 : Int32) * (mr_X5_slotOf P sg a1 (a5 / (sg (20, 0, 0) 2)))) + (a5 - a5 / (sg (20, 0, 0) 2) * (sg (20, 0, 0) 2))) 128 ∧ ((((wk_up sg (29, 0, 0) (Int32.toNatClampNeg (mr_X5_slotOf P sg a1 (a5 / (sg (20, 0, 0) 2)))) 4) (31, 0, 0) (Int32.toNatClampNeg (((4 : Int32) * (mr_X5_slotOf P sg a1 (a5 / (sg (20, 0, 0) 2)))) + (a5 - a5 / (sg (20, 0, 0) 2) * (sg (20, 0, 0) 2))))) = a4 → (vp_in (((4 : Int32) * a1) + a3) 16 ∧ (vp_in (((4 : Int32) * (mr_X5_slotOf P sg a1 (a5 / (sg (20, 0, 0) 2)))) + (a5 - a5 / (sg (20, 0, 0) 2) * (sg (20, 0, 0) 2))) 128 ∧ ((a2 = 11 → (vp_in (((4 : Int32) * a1) + a3) 16 ∧ (vp_in a1 4 ∧ (mg_X5_done P (wk_up (wk_up (wk_up sg (29, 0, 0) (Int32.toNatClampNeg (mr_X5_slotOf P sg a1 (a5 / (sg (20, 0, 0) 2)))) 4) (31, 0, 0) (Int32.toNatClampNeg (((4 : Int32) * (mr_X5_slotOf P sg a1 (a5 / (sg (20, 0, 0) 2)))) + (a5 - a5 / (sg (20, 0, 0) 2) * (sg (20, 0, 0) 2)))) ((wk_up sg (29, 0, 0) (Int32.toNatClampNeg (mr_X5_slotOf P sg a1 (a5 / (sg (20, 0, 0) 2)))) 4) (23, 0, 0) (Int32.toNatClampNeg (((4 : Int32) * a1) + a3)))) (23, 0, 0) (Int32.toNatClampNeg (((4 : Int32) * a1) + a3)) 1) a1 (((wk_up (wk_up (wk_up sg (29, 0, 0) (Int32.toNatClampNeg (mr_X5_slotOf P sg a1 (a5 / (sg (20, 0, 0) 2)))) 4) (31, 0, 0) (Int32.toNatClampNeg (((4 : Int32) * (mr_X5_slotOf P sg a1 (a5 / (sg (20, 0, 0) 2)))) + (a5 - a5 / (sg (20, 0, 0) 2) * (sg (20, 0, 0) 2)))) ((wk_up sg (29, 0, 0) (Int32.toNatClampNeg (mr_X5_slotOf P sg a1 (a5 / (sg (20, 0, 0) 2)))) 4) (23, 0, 0) (Int32.toNatClampNeg (((4 : Int32) * a1) + a3)))) (23, 0, 0) (Int32.toNatClampNeg (((4 : Int32) * a1) + a3)) 1) (24, 0, 0) (Int32.toNatClampNeg a1)) + (1 : Int32)) ∧ True)))) ∧ (¬ a2 = 11 → (vp_in a1 4 ∧ (mg_X5_done P (wk_up (wk_up sg (29, 0, 0) (Int32.toNatClampNeg (mr_X5_slotOf P sg a1 (a5 / (sg (20, 0, 0) 2)))) 4) (31, 0, 0) (Int32.toNatClampNeg (((4 : Int32) * (mr_X5_slotOf P sg a1 (a5 / (sg (20, 0, 0) 2)))) + (a5 - a5 / (sg (20, 0, 0) 2) * (sg (20, 0, 0) 2)))) ((wk_up sg (29, 0, 0) (Int32.toNatClampNeg (mr_X5_slotOf P sg a1 (a5 / (sg (20, 0, 0) 2)))) 4) (23, 0, 0) (Int32.toNatClampNeg (((4 : Int32) * a1) + a3)))) a1 (((wk_up (wk_up sg (29, 0, 0) (Int32.toNatClampNeg (mr_X5_slotOf P sg a1 (a5 / (sg (20, 0, 0) 2)))) 4) (31, 0, 0) (Int32.toNatClampNeg (((4 : Int32) * (mr_X5_slotOf P sg a1 (a5 / (sg (20, 0, 0) 2)))) + (a5 - a5 / (sg (20, 0, 0) 2) * (sg (20, 0, 0) 2)))) ((wk_up sg (29, 0, 0) (Int32.toNatClampNeg (mr_X5_slotOf P sg a1 (a5 / (sg (20, 0, 0) 2)))) 4) (23, 0, 0) (Int32.toNatClampNeg (((4 : Int32) * a1) + a3)))) (24, 0, 0) (Int32.toNatClampNeg a1)) + (1 : Int32)) ∧ True))))))) ∧ (¬ ((wk_up sg (29, 0, 0) (Int32.toNatClampNeg (mr_X5_slotOf P sg a1 (a5 / (sg (20, 0, 0) 2)))) 4) (31, 0, 0) (Int32.toNatClampNeg (((4 : Int32) * (mr_X5_slotOf P sg a1 (a5 / (sg (20, 0, 0) 2)))) + (a5 - a5 / (sg (20, 0, 0) 2) * (sg (20, 0, 0) 2))))) = a4 → ((a2 = 11 → (vp_in (((4 : Int32) * a1) + a3) 16 ∧ (vp_in a1 4 ∧ (mg_X5_done P (wk_up (wk_up sg (29, 0, 0) (Int32.toNatClampNeg (mr_X5_slotOf P sg a1 (a5 / (sg (20, 0, 0) 2)))) 4) (23, 0, 0) (Int32.toNatClampNeg (((4 : Int32) * a1) + a3)) 0) a1 (((wk_up (wk_up sg (29, 0, 0) (Int32.toNatClampNeg (mr_X5_slotOf P sg a1 (a5 / (sg (20, 0, 0) 2)))) 4) (23, 0, 0) (Int32.toNatClampNeg (((4 : Int32) * a1) + a3)) 0) (24, 0, 0) (Int32.toNatClampNeg a1)) + (1 : Int32)) ∧ True)))) ∧ (¬ a2 = 11 → (vp_in a1 4 ∧ (mg_X5_done P (wk_up sg (29, 0, 0) (Int32.toNatClampNeg (mr_X5_slotOf P sg a1 (a5 / (sg (20, 0, 0) 2)))) 4) a1 (((wk_up sg (29, 0, 0) (Int32.toNatClampNeg (mr_X5_slotOf P sg a1 (a5 / (sg (20, 0, 0) 2)))) 4) (24, 0, 0) (Int32.toNatClampNeg a1)) + (1 : Int32)) ∧ True))))))))))))) ∧ (¬ (mr_X5_stateOf P sg a1 (a5 / (sg (20, 0, 0) 2))) = 4 → (vp_in a1 4 ∧ (vp_in a1 4 ∧ (vp_in a1 4 ∧ True)))))))))))))
set_option maxHeartbeats 4000000 in
set_option maxRecDepth 100000 in
theorem mk_X5_move {l : Launch} {D : va_G} {T : wk_T} {z0 : Nat} {ad : wk_K3 → Nat} {sh : wk_Sh} {P : Nat → Nat} (hSh : rf_Sh T sh) (sg : wk_Sg) (a1 : Int32) (a2 : Int32) (a3 : Int32) (a4 : Int32) (a5 : Int32)  (hg : mg_X5_move P sg a1 a2 a3 a4 a5) : wk_Mi l yX5_move cX5_move 11 (some .int) 2 45 D T z0 ad sh [.ref (ad (20, 0, 0)), .int a1, .int a2, .int a3, .int a4, .int a5] sg (mr_X5_move P sg a1 a2 a3 a4 a5) (ms_X5_move P sg a1 a2 a3 a4 a5) := by
  refine Met.ofW (cc := cX5_move) (maxL := 11) (ret := (some .int)) (by decide) rfl ?_
  intro p e s m args below meth c s₁ B hml hv
  obtain ⟨rfl, hz, hH, hK⟩ := hv
  have hx := B.exec
  have hb := B.bytes
  have hr := B.returns
  have hlocks := B.notSynchronized
  have hts : ∀ w ∈ wk_B, w.before _ s = true := fun w hw => atoms_spec (ws := Cond.code yX5_move cX5_move 11 (some .int) :: wk_B) B.pre w (List.mem_cons_of_mem _ hw)
  have X : wk_C p m c cX5_move 11 s _ RX5 D T := ⟨⟨hx, hb, hml, findClass_of_methodNamed B.named, hts⟩, hK⟩
  have hS : va_S (wk_A z0) s.heap s.heap [] := va_S.rf
  have hl := lv_entry ([.ref (ad (20, 0, 0)), .int a1, .int a2, .int a3, .int a4, .int a5]) (n := 11) (Nat.le_of_ble_eq_true rfl)
  rw [lg_entry_eq]
  generalize (lg_sl ([.ref (ad (20, 0, 0)), .int a1, .int a2, .int a3, .int a4, .int a5]) ++ List.replicate (11 - (lg_sl ([.ref (ad (20, 0, 0)), .int a1, .int a2, .int a3, .int a4, .int a5])).length) Slot.unset).toArray = ls at hl ⊢
  have hl : lv_has ls 11 [(0, .ref (ad (20, 0, 0))), (1, .int a1), (2, .int a2), (3, .int a3), (4, .int a4), (5, .int a5)] := hl
  unfold mg_X5_move at hg
  refine lv_aload_n (pc := 0) hx hb dX5_move_0 rfl (lv_at hl 0 rfl) ?_
  refine lv_iload (pc := 1) hx hb dX5_move_1 (lv_at hl 5 rfl) ?_
  refine wk_ci (wk_rV (pc := 3) (As := [.int a5]) (rest := []) X hH hS hz (rf_20 hSh) rfl ok_X5_isAddress (mk_X5_isAddress (l := l) (P := P) hSh sg a5  ) ml_X5_83 ⟨by decide, by decide, by decide, by decide⟩ rfl hl.1 rfl (Nat.le_of_ble_eq_true rfl) dX5_move_3) hS (fun H locs hH hS => ?_)
  refine lv_if_ne (pc := 6) (tgt := 15) hx hb dX5_move_6 (by decide) (fun h1 => ?_) (fun h1 => ?_)
  · have hg := hg.2 h1
    refine lv_iload (pc := 15) hx hb dX5_move_15 (lv_at hl 5 rfl) ?_
    refine lv_aload_n (pc := 17) hx hb dX5_move_17 rfl (lv_at hl 0 rfl) ?_
    refine wk_geti (pc := 18) X hH (20, 0, 0) 2 (rf_20 hSh) rfl (by decide) rfl inX5 fl_X5_60 dX5_move_18 ?_
    obtain ⟨o2, hg⟩ := hg
    refine lv_idiv (pc := 21) hx hb dX5_move_21 o2 ?_
    refine lv_istore (pc := 22) (lv' := [(6, .int (a5 / (sg (20, 0, 0) 2))), (0, .ref (ad (20, 0, 0))), (1, .int a1), (2, .int a2), (3, .int a3), (4, .int a4), (5, .int a5)]) hx hb dX5_move_22 hl (by decide) rfl (fun ls hl => ?_)
    refine lv_aload_n (pc := 24) hx hb dX5_move_24 rfl (lv_at hl 1 rfl) ?_
    refine lv_iload_n (pc := 25) hx hb dX5_move_25 rfl (lv_at hl 2 rfl) ?_
    refine lv_iload (pc := 26) hx hb dX5_move_26 (lv_at hl 0 rfl) ?_
    obtain ⟨o3, hg⟩ := hg
    refine wk_ci (wk_rV (pc := 28) (As := [.int a1, .int (a5 / (sg (20, 0, 0) 2))]) (rest := []) X hH hS hz (rf_20 hSh) rfl ok_X5_stateOf (mk_X5_stateOf (l := l) (P := P) hSh sg a1 (a5 / (sg (20, 0, 0) 2))  o3) ml_X5_94 ⟨by decide, by decide, by decide, by decide⟩ rfl hl.1 rfl (Nat.le_of_ble_eq_true rfl) dX5_move_28) hS (fun H locs hH hS => ?_)
    refine lv_istore (pc := 31) (lv' := [(7, .int (mr_X5_stateOf P sg a1 (a5 / (sg (20, 0, 0) 2)))), (6, .int (a5 / (sg (20, 0, 0) 2))), (0, .ref (ad (20, 0, 0))), (1, .int a1), (2, .int a2), (3, .int a3), (4, .int a4), (5, .int a5)]) hx hb dX5_move_31 hl (by decide) rfl (fun ls hl => ?_)
    refine lv_iload_n (pc := 33) hx hb dX5_move_33 rfl (lv_at hl 4 rfl) ?_
    refine lv_bipush (pc := 34) (v := 9) hx hb dX5_move_34 (by decide) ?_
    refine lv_icmp_ne (pc := 36) (tgt := 47) hx hb dX5_move_36 (by decide) (fun h4 => ?_) (fun h4 => ?_)
    · have hg := hg.2 h4
      refine lv_iload (pc := 47) hx hb dX5_move_47 (lv_at hl 0 rfl) ?_
      refine lv_iconst (pc := 49) (v := 2) hx hb dX5_move_49 (by decide) ?_
      refine lv_icmp_eq (pc := 50) (tgt := 93) hx hb dX5_move_50 (by decide) (fun h5 => ?_) (fun h5 => ?_)
      · have hg := hg.1 h5
        refine lv_aload_n (pc := 93) hx hb dX5_move_93 rfl (lv_at hl 2 rfl) ?_
        refine lv_iload_n (pc := 94) hx hb dX5_move_94 rfl (lv_at hl 3 rfl) ?_
        refine lv_iload (pc := 95) hx hb dX5_move_95 (lv_at hl 1 rfl) ?_
        obtain ⟨o6, hg⟩ := hg
        refine wk_ci (wk_rV (pc := 97) (As := [.int a1, .int (a5 / (sg (20, 0, 0) 2))]) (rest := []) X hH hS hz (rf_20 hSh) rfl ok_X5_slotOf (mk_X5_slotOf (l := l) (P := P) hSh sg a1 (a5 / (sg (20, 0, 0) 2))  o6) ml_X5_86 ⟨by decide, by decide, by decide, by decide⟩ rfl hl.1 rfl (Nat.le_of_ble_eq_true rfl) dX5_move_97) hS (fun H locs hH hS => ?_)
        refine lv_istore (pc := 100) (lv' := [(8, .int (mr_X5_slotOf P sg a1 (a5 / (sg (20, 0, 0) 2)))), (7, .int (mr_X5_stateOf P sg a1 (a5 / (sg (20, 0, 0) 2)))), (6, .int (a5 / (sg (20, 0, 0) 2))), (0, .ref (ad (20, 0, 0))), (1, .int a1), (2, .int a2), (3, .int a3), (4, .int a4), (5, .int a5)]) hx hb dX5_move_100 hl (by decide) rfl (fun ls hl => ?_)
        refine lv_iconst (pc := 102) (v := 4) hx hb dX5_move_102 (by decide) ?_
        refine lv_iload (pc := 103) hx hb dX5_move_103 (lv_at hl 0 rfl) ?_
        refine lv_imul (pc := 105) hx hb dX5_move_105 ?_
        refine lv_iload (pc := 106) hx hb dX5_move_106 (lv_at hl 8 rfl) ?_
        refine lv_aload_n (pc := 108) hx hb dX5_move_108 rfl (lv_at hl 3 rfl) ?_
        refine wk_geti (pc := 109) X hH (20, 0, 0) 2 (rf_20 hSh) rfl (by decide) rfl inX5 fl_X5_60 dX5_move_109 ?_
        obtain ⟨o7, hg⟩ := hg
        refine lv_irem (pc := 112) hx hb dX5_move_112 o7 ?_
        refine lv_iadd (pc := 113) hx hb dX5_move_113 ?_
        refine lv_istore (pc := 114) (lv' := [(9, .int (((4 : Int32) * (mr_X5_slotOf P sg a1 (a5 / (sg (20, 0, 0) 2)))) + (a5 - a5 / (sg (20, 0, 0) 2) * (sg (20, 0, 0) 2)))), (8, .int (mr_X5_slotOf P sg a1 (a5 / (sg (20, 0, 0) 2)))), (7, .int (mr_X5_stateOf P sg a1 (a5 / (sg (20, 0, 0) 2)))), (6, .int (a5 / (sg (20, 0, 0) 2))), (0, .ref (ad (20, 0, 0))), (1, .int a1), (2, .int a2), (3, .int a3), (4, .int a4), (5, .int a5)]) hx hb dX5_move_114 hl (by decide) rfl (fun ls hl => ?_)
        refine lv_iload_n (pc := 116) hx hb dX5_move_116 rfl (lv_at hl 6 rfl) ?_
        refine lv_bipush (pc := 117) (v := 9) hx hb dX5_move_117 (by decide) ?_
        refine lv_icmp_ne (pc := 119) (tgt := 153) hx hb dX5_move_119 (by decide) (fun _ => ?_) (fun h8 => absurd h8 h4)
        refine lv_aload_n (pc := 153) hx hb dX5_move_153 rfl (lv_at hl 4 rfl) ?_
        refine wk_getr (pc := 154) X hH (20, 0, 0) 14 (29, 0, 0) (rf_20 hSh) rfl (by decide) rfl inX5 fl_X5_34 dX5_move_154 ?_
        refine lv_iload (pc := 157) hx hb dX5_move_157 (lv_at hl 1 rfl) ?_
        refine lv_iconst (pc := 159) (v := 4) hx hb dX5_move_159 (by decide) ?_
        obtain ⟨o9, hg⟩ := hg
        refine wk_iast (pc := 160) X hH hS (29, 0, 0) (rf_29 hSh) o9 dX5_move_160 (fun H locs hH hS => ?_)
        refine lv_iload_n (pc := 161) hx hb dX5_move_161 rfl (lv_at hl 6 rfl) ?_
        refine lv_bipush (pc := 162) (v := 10) hx hb dX5_move_162 (by decide) ?_
        refine lv_icmp_eq (pc := 164) (tgt := 179) hx hb dX5_move_164 (by decide) (fun h10 => ?_) (fun h10 => ?_)
        · have hg := hg.1 h10
          refine lv_iconst (pc := 179) (v := 1) hx hb dX5_move_179 (by decide) ?_
          refine lv_goto (pc := 180) (tgt := 184) hx hb dX5_move_180 (by decide) ?_
          refine lv_istore (pc := 184) (lv' := [(10, .int 1), (9, .int (((4 : Int32) * (mr_X5_slotOf P sg a1 (a5 / (sg (20, 0, 0) 2)))) + (a5 - a5 / (sg (20, 0, 0) 2) * (sg (20, 0, 0) 2)))), (8, .int (mr_X5_slotOf P sg a1 (a5 / (sg (20, 0, 0) 2)))), (7, .int (mr_X5_stateOf P sg a1 (a5 / (sg (20, 0, 0) 2)))), (6, .int (a5 / (sg (20, 0, 0) 2))), (0, .ref (ad (20, 0, 0))), (1, .int a1), (2, .int a2), (3, .int a3), (4, .int a4), (5, .int a5)]) hx hb dX5_move_184 hl (by decide) rfl (fun ls hl => ?_)
          refine lv_iload (pc := 186) hx hb dX5_move_186 (lv_at hl 0 rfl) ?_
          refine lv_if_eq (pc := 188) (tgt := 208) hx hb dX5_move_188 (by decide) (fun h11 => absurd h11 (by decide)) (fun _ => ?_)
          refine lv_aload_n (pc := 191) hx hb dX5_move_191 rfl (lv_at hl 5 rfl) ?_
          refine wk_getr (pc := 192) X hH (20, 0, 0) 16 (31, 0, 0) (rf_20 hSh) rfl (by decide) rfl inX5 fl_X5_40 dX5_move_192 ?_
          refine lv_iload (pc := 195) hx hb dX5_move_195 (lv_at hl 1 rfl) ?_
          refine lv_aload_n (pc := 197) hx hb dX5_move_197 rfl (lv_at hl 5 rfl) ?_
          refine wk_getr (pc := 198) X hH (20, 0, 0) 8 (23, 0, 0) (rf_20 hSh) rfl (by decide) rfl inX5 fl_X5_16 dX5_move_198 ?_
          refine lv_iconst (pc := 201) (v := 4) hx hb dX5_move_201 (by decide) ?_
          refine lv_iload_n (pc := 202) hx hb dX5_move_202 rfl (lv_at hl 6 rfl) ?_
          refine lv_imul (pc := 203) hx hb dX5_move_203 ?_
          refine lv_iload_n (pc := 204) hx hb dX5_move_204 rfl (lv_at hl 8 rfl) ?_
          refine lv_iadd (pc := 205) hx hb dX5_move_205 ?_
          obtain ⟨o12, hg⟩ := hg
          refine wk_iald (pc := 206) X hH (23, 0, 0) (rf_23 hSh) o12 dX5_move_206 ?_
          obtain ⟨o13, hg⟩ := hg
          refine wk_iast (pc := 207) X hH hS (31, 0, 0) (rf_31 hSh) o13 dX5_move_207 (fun H locs hH hS => ?_)
          refine lv_iload_n (pc := 208) hx hb dX5_move_208 rfl (lv_at hl 7 rfl) ?_
          refine lv_bipush (pc := 209) (v := 11) hx hb dX5_move_209 (by decide) ?_
          refine lv_icmp_ne (pc := 211) (tgt := 234) hx hb dX5_move_211 (by decide) (fun h14 => ?_) (fun h14 => ?_)
          · have hg := hg.2 h14
            refine lv_aload_n (pc := 234) hx hb dX5_move_234 rfl (lv_at hl 5 rfl) ?_
            refine lv_iload_n (pc := 235) hx hb dX5_move_235 rfl (lv_at hl 6 rfl) ?_
            refine lv_aload_n (pc := 236) hx hb dX5_move_236 rfl (lv_at hl 5 rfl) ?_
            refine wk_getr (pc := 237) X hH (20, 0, 0) 9 (24, 0, 0) (rf_20 hSh) rfl (by decide) rfl inX5 fl_X5_19 dX5_move_237 ?_
            refine lv_iload_n (pc := 240) hx hb dX5_move_240 rfl (lv_at hl 6 rfl) ?_
            obtain ⟨o15, hg⟩ := hg
            refine wk_iald (pc := 241) X hH (24, 0, 0) (rf_24 hSh) o15 dX5_move_241 ?_
            refine lv_iconst (pc := 242) (v := 1) hx hb dX5_move_242 (by decide) ?_
            refine lv_iadd (pc := 243) hx hb dX5_move_243 ?_
            obtain ⟨o16, hg⟩ := hg
            refine wk_ci (wk_rV (pc := 244) (As := [.int a1, .int (((wk_up (wk_up sg (29, 0, 0) (Int32.toNatClampNeg (mr_X5_slotOf P sg a1 (a5 / (sg (20, 0, 0) 2)))) 4) (31, 0, 0) (Int32.toNatClampNeg (((4 : Int32) * (mr_X5_slotOf P sg a1 (a5 / (sg (20, 0, 0) 2)))) + (a5 - a5 / (sg (20, 0, 0) 2) * (sg (20, 0, 0) 2)))) ((wk_up sg (29, 0, 0) (Int32.toNatClampNeg (mr_X5_slotOf P sg a1 (a5 / (sg (20, 0, 0) 2)))) 4) (23, 0, 0) (Int32.toNatClampNeg (((4 : Int32) * a1) + a3)))) (24, 0, 0) (Int32.toNatClampNeg a1)) + (1 : Int32))]) (rest := []) X hH hS hz (rf_20 hSh) rfl ok_X5_done (mk_X5_done (l := l) (P := P) hSh (wk_up (wk_up sg (29, 0, 0) (Int32.toNatClampNeg (mr_X5_slotOf P sg a1 (a5 / (sg (20, 0, 0) 2)))) 4) (31, 0, 0) (Int32.toNatClampNeg (((4 : Int32) * (mr_X5_slotOf P sg a1 (a5 / (sg (20, 0, 0) 2)))) + (a5 - a5 / (sg (20, 0, 0) 2) * (sg (20, 0, 0) 2)))) ((wk_up sg (29, 0, 0) (Int32.toNatClampNeg (mr_X5_slotOf P sg a1 (a5 / (sg (20, 0, 0) 2)))) 4) (23, 0, 0) (Int32.toNatClampNeg (((4 : Int32) * a1) + a3)))) a1 (((wk_up (wk_up sg (29, 0, 0) (Int32.toNatClampNeg (mr_X5_slotOf P sg a1 (a5 / (sg (20, 0, 0) 2)))) 4) (31, 0, 0) (Int32.toNatClampNeg (((4 : Int32) * (mr_X5_slotOf P sg a1 (a5 / (sg (20, 0, 0) 2)))) + (a5 - a5 / (sg (20, 0, 0) 2) * (sg (20, 0, 0) 2)))) ((wk_up sg (29, 0, 0) (Int32.toNatClampNeg (mr_X5_slotOf P sg a1 (a5 / (sg (20, 0, 0) 2)))) 4) (23, 0, 0) (Int32.toNatClampNeg (((4 : Int32) * a1) + a3)))) (24, 0, 0) (Int32.toNatClampNeg a1)) + (1 : Int32))  o16) ml_X5_97 ⟨by decide, by decide, by decide, by decide⟩ rfl hl.1 rfl (Nat.le_of_ble_eq_true rfl) dX5_move_244) hS (fun H locs hH hS => ?_)
            exact wk_iret (pc := 247) X hH hS hr hlocks (by rw [mr_X5_move, if_neg h1, if_neg h4, if_pos h5, if_pos h10, if_neg h14]) (by rw [ms_X5_move, if_neg h1, if_neg h4, if_pos h5, if_pos h10, if_neg h14]) dX5_move_247
          · have hg := hg.1 h14
            refine lv_aload_n (pc := 214) hx hb dX5_move_214 rfl (lv_at hl 5 rfl) ?_
            refine wk_getr (pc := 215) X hH (20, 0, 0) 8 (23, 0, 0) (rf_20 hSh) rfl (by decide) rfl inX5 fl_X5_16 dX5_move_215 ?_
            refine lv_iconst (pc := 218) (v := 4) hx hb dX5_move_218 (by decide) ?_
            refine lv_iload_n (pc := 219) hx hb dX5_move_219 rfl (lv_at hl 6 rfl) ?_
            refine lv_imul (pc := 220) hx hb dX5_move_220 ?_
            refine lv_iload_n (pc := 221) hx hb dX5_move_221 rfl (lv_at hl 8 rfl) ?_
            refine lv_iadd (pc := 222) hx hb dX5_move_222 ?_
            refine lv_iload (pc := 223) hx hb dX5_move_223 (lv_at hl 0 rfl) ?_
            refine lv_if_eq (pc := 225) (tgt := 232) hx hb dX5_move_225 (by decide) (fun h17 => absurd h17 (by decide)) (fun _ => ?_)
            refine lv_iconst (pc := 228) (v := 1) hx hb dX5_move_228 (by decide) ?_
            refine lv_goto (pc := 229) (tgt := 233) hx hb dX5_move_229 (by decide) ?_
            obtain ⟨o18, hg⟩ := hg
            refine wk_iast (pc := 233) X hH hS (23, 0, 0) (rf_23 hSh) o18 dX5_move_233 (fun H locs hH hS => ?_)
            refine lv_aload_n (pc := 234) hx hb dX5_move_234 rfl (lv_at hl 5 rfl) ?_
            refine lv_iload_n (pc := 235) hx hb dX5_move_235 rfl (lv_at hl 6 rfl) ?_
            refine lv_aload_n (pc := 236) hx hb dX5_move_236 rfl (lv_at hl 5 rfl) ?_
            refine wk_getr (pc := 237) X hH (20, 0, 0) 9 (24, 0, 0) (rf_20 hSh) rfl (by decide) rfl inX5 fl_X5_19 dX5_move_237 ?_
            refine lv_iload_n (pc := 240) hx hb dX5_move_240 rfl (lv_at hl 6 rfl) ?_
            obtain ⟨o19, hg⟩ := hg
            refine wk_iald (pc := 241) X hH (24, 0, 0) (rf_24 hSh) o19 dX5_move_241 ?_
            refine lv_iconst (pc := 242) (v := 1) hx hb dX5_move_242 (by decide) ?_
            refine lv_iadd (pc := 243) hx hb dX5_move_243 ?_
            obtain ⟨o20, hg⟩ := hg
            refine wk_ci (wk_rV (pc := 244) (As := [.int a1, .int (((wk_up (wk_up (wk_up sg (29, 0, 0) (Int32.toNatClampNeg (mr_X5_slotOf P sg a1 (a5 / (sg (20, 0, 0) 2)))) 4) (31, 0, 0) (Int32.toNatClampNeg (((4 : Int32) * (mr_X5_slotOf P sg a1 (a5 / (sg (20, 0, 0) 2)))) + (a5 - a5 / (sg (20, 0, 0) 2) * (sg (20, 0, 0) 2)))) ((wk_up sg (29, 0, 0) (Int32.toNatClampNeg (mr_X5_slotOf P sg a1 (a5 / (sg (20, 0, 0) 2)))) 4) (23, 0, 0) (Int32.toNatClampNeg (((4 : Int32) * a1) + a3)))) (23, 0, 0) (Int32.toNatClampNeg (((4 : Int32) * a1) + a3)) 1) (24, 0, 0) (Int32.toNatClampNeg a1)) + (1 : Int32))]) (rest := []) X hH hS hz (rf_20 hSh) rfl ok_X5_done (mk_X5_done (l := l) (P := P) hSh (wk_up (wk_up (wk_up sg (29, 0, 0) (Int32.toNatClampNeg (mr_X5_slotOf P sg a1 (a5 / (sg (20, 0, 0) 2)))) 4) (31, 0, 0) (Int32.toNatClampNeg (((4 : Int32) * (mr_X5_slotOf P sg a1 (a5 / (sg (20, 0, 0) 2)))) + (a5 - a5 / (sg (20, 0, 0) 2) * (sg (20, 0, 0) 2)))) ((wk_up sg (29, 0, 0) (Int32.toNatClampNeg (mr_X5_slotOf P sg a1 (a5 / (sg (20, 0, 0) 2)))) 4) (23, 0, 0) (Int32.toNatClampNeg (((4 : Int32) * a1) + a3)))) (23, 0, 0) (Int32.toNatClampNeg (((4 : Int32) * a1) + a3)) 1) a1 (((wk_up (wk_up (wk_up sg (29, 0, 0) (Int32.toNatClampNeg (mr_X5_slotOf P sg a1 (a5 / (sg (20, 0, 0) 2)))) 4) (31, 0, 0) (Int32.toNatClampNeg (((4 : Int32) * (mr_X5_slotOf P sg a1 (a5 / (sg (20, 0, 0) 2)))) + (a5 - a5 / (sg (20, 0, 0) 2) * (sg (20, 0, 0) 2)))) ((wk_up sg (29, 0, 0) (Int32.toNatClampNeg (mr_X5_slotOf P sg a1 (a5 / (sg (20, 0, 0) 2)))) 4) (23, 0, 0) (Int32.toNatClampNeg (((4 : Int32) * a1) + a3)))) (23, 0, 0) (Int32.toNatClampNeg (((4 : Int32) * a1) + a3)) 1) (24, 0, 0) (Int32.toNatClampNeg a1)) + (1 : Int32))  o20) ml_X5_97 ⟨by decide, by decide, by decide, by decide⟩ rfl hl.1 rfl (Nat.le_of_ble_eq_true rfl) dX5_move_244) hS (fun H locs hH hS => ?_)
            exact wk_iret (pc := 247) X hH hS hr hlocks (by rw [mr_X5_move, if_neg h1, if_neg h4, if_pos h5, if_pos h10, if_pos h14]) (by rw [ms_X5_move, if_neg h1, if_neg h4, if_pos h5, if_pos h10, if_pos h14]) dX5_move_247
        · have hg := hg.2 h10
          refine lv_aload_n (pc := 167) hx hb dX5_move_167 rfl (lv_at hl 4 rfl) ?_
          refine wk_getr (pc := 168) X hH (20, 0, 0) 16 (31, 0, 0) (rf_20 hSh) rfl (by decide) rfl inX5 fl_X5_40 dX5_move_168 ?_
          refine lv_iload (pc := 171) hx hb dX5_move_171 (lv_at hl 0 rfl) ?_
          obtain ⟨o21, hg⟩ := hg
          refine wk_iald (pc := 173) X hH (31, 0, 0) (rf_31 hSh) o21 dX5_move_173 ?_
          refine lv_iload (pc := 174) hx hb dX5_move_174 (lv_at hl 8 rfl) ?_
          refine lv_icmp_ne (pc := 176) (tgt := 183) hx hb dX5_move_176 (by decide) (fun h22 => ?_) (fun h22 => ?_)
          · have hg := hg.2 h22
            refine lv_iconst (pc := 183) (v := 0) hx hb dX5_move_183 (by decide) ?_
            refine lv_istore (pc := 184) (lv' := [(10, .int 0), (9, .int (((4 : Int32) * (mr_X5_slotOf P sg a1 (a5 / (sg (20, 0, 0) 2)))) + (a5 - a5 / (sg (20, 0, 0) 2) * (sg (20, 0, 0) 2)))), (8, .int (mr_X5_slotOf P sg a1 (a5 / (sg (20, 0, 0) 2)))), (7, .int (mr_X5_stateOf P sg a1 (a5 / (sg (20, 0, 0) 2)))), (6, .int (a5 / (sg (20, 0, 0) 2))), (0, .ref (ad (20, 0, 0))), (1, .int a1), (2, .int a2), (3, .int a3), (4, .int a4), (5, .int a5)]) hx hb dX5_move_184 hl (by decide) rfl (fun ls hl => ?_)
            refine lv_iload (pc := 186) hx hb dX5_move_186 (lv_at hl 0 rfl) ?_
            refine lv_if_eq (pc := 188) (tgt := 208) hx hb dX5_move_188 (by decide) (fun _ => ?_) (fun h23 => absurd (by decide) h23)
            refine lv_iload_n (pc := 208) hx hb dX5_move_208 rfl (lv_at hl 7 rfl) ?_
            refine lv_bipush (pc := 209) (v := 11) hx hb dX5_move_209 (by decide) ?_
            refine lv_icmp_ne (pc := 211) (tgt := 234) hx hb dX5_move_211 (by decide) (fun h24 => ?_) (fun h24 => ?_)
            · have hg := hg.2 h24
              refine lv_aload_n (pc := 234) hx hb dX5_move_234 rfl (lv_at hl 5 rfl) ?_
              refine lv_iload_n (pc := 235) hx hb dX5_move_235 rfl (lv_at hl 6 rfl) ?_
              refine lv_aload_n (pc := 236) hx hb dX5_move_236 rfl (lv_at hl 5 rfl) ?_
              refine wk_getr (pc := 237) X hH (20, 0, 0) 9 (24, 0, 0) (rf_20 hSh) rfl (by decide) rfl inX5 fl_X5_19 dX5_move_237 ?_
              refine lv_iload_n (pc := 240) hx hb dX5_move_240 rfl (lv_at hl 6 rfl) ?_
              obtain ⟨o25, hg⟩ := hg
              refine wk_iald (pc := 241) X hH (24, 0, 0) (rf_24 hSh) o25 dX5_move_241 ?_
              refine lv_iconst (pc := 242) (v := 1) hx hb dX5_move_242 (by decide) ?_
              refine lv_iadd (pc := 243) hx hb dX5_move_243 ?_
              obtain ⟨o26, hg⟩ := hg
              refine wk_ci (wk_rV (pc := 244) (As := [.int a1, .int (((wk_up sg (29, 0, 0) (Int32.toNatClampNeg (mr_X5_slotOf P sg a1 (a5 / (sg (20, 0, 0) 2)))) 4) (24, 0, 0) (Int32.toNatClampNeg a1)) + (1 : Int32))]) (rest := []) X hH hS hz (rf_20 hSh) rfl ok_X5_done (mk_X5_done (l := l) (P := P) hSh (wk_up sg (29, 0, 0) (Int32.toNatClampNeg (mr_X5_slotOf P sg a1 (a5 / (sg (20, 0, 0) 2)))) 4) a1 (((wk_up sg (29, 0, 0) (Int32.toNatClampNeg (mr_X5_slotOf P sg a1 (a5 / (sg (20, 0, 0) 2)))) 4) (24, 0, 0) (Int32.toNatClampNeg a1)) + (1 : Int32))  o26) ml_X5_97 ⟨by decide, by decide, by decide, by decide⟩ rfl hl.1 rfl (Nat.le_of_ble_eq_true rfl) dX5_move_244) hS (fun H locs hH hS => ?_)
              exact wk_iret (pc := 247) X hH hS hr hlocks (by rw [mr_X5_move, if_neg h1, if_neg h4, if_pos h5, if_neg h10, if_neg h22, if_neg h24]) (by rw [ms_X5_move, if_neg h1, if_neg h4, if_pos h5, if_neg h10, if_neg h22, if_neg h24]) dX5_move_247
            · have hg := hg.1 h24
              refine lv_aload_n (pc := 214) hx hb dX5_move_214 rfl (lv_at hl 5 rfl) ?_
              refine wk_getr (pc := 215) X hH (20, 0, 0) 8 (23, 0, 0) (rf_20 hSh) rfl (by decide) rfl inX5 fl_X5_16 dX5_move_215 ?_
              refine lv_iconst (pc := 218) (v := 4) hx hb dX5_move_218 (by decide) ?_
              refine lv_iload_n (pc := 219) hx hb dX5_move_219 rfl (lv_at hl 6 rfl) ?_
              refine lv_imul (pc := 220) hx hb dX5_move_220 ?_
              refine lv_iload_n (pc := 221) hx hb dX5_move_221 rfl (lv_at hl 8 rfl) ?_
              refine lv_iadd (pc := 222) hx hb dX5_move_222 ?_
              refine lv_iload (pc := 223) hx hb dX5_move_223 (lv_at hl 0 rfl) ?_
              refine lv_if_eq (pc := 225) (tgt := 232) hx hb dX5_move_225 (by decide) (fun _ => ?_) (fun h27 => absurd (by decide) h27)
              refine lv_iconst (pc := 232) (v := 0) hx hb dX5_move_232 (by decide) ?_
              obtain ⟨o28, hg⟩ := hg
              refine wk_iast (pc := 233) X hH hS (23, 0, 0) (rf_23 hSh) o28 dX5_move_233 (fun H locs hH hS => ?_)
              refine lv_aload_n (pc := 234) hx hb dX5_move_234 rfl (lv_at hl 5 rfl) ?_
              refine lv_iload_n (pc := 235) hx hb dX5_move_235 rfl (lv_at hl 6 rfl) ?_
              refine lv_aload_n (pc := 236) hx hb dX5_move_236 rfl (lv_at hl 5 rfl) ?_
              refine wk_getr (pc := 237) X hH (20, 0, 0) 9 (24, 0, 0) (rf_20 hSh) rfl (by decide) rfl inX5 fl_X5_19 dX5_move_237 ?_
              refine lv_iload_n (pc := 240) hx hb dX5_move_240 rfl (lv_at hl 6 rfl) ?_
              obtain ⟨o29, hg⟩ := hg
              refine wk_iald (pc := 241) X hH (24, 0, 0) (rf_24 hSh) o29 dX5_move_241 ?_
              refine lv_iconst (pc := 242) (v := 1) hx hb dX5_move_242 (by decide) ?_
              refine lv_iadd (pc := 243) hx hb dX5_move_243 ?_
              obtain ⟨o30, hg⟩ := hg
              refine wk_ci (wk_rV (pc := 244) (As := [.int a1, .int (((wk_up (wk_up sg (29, 0, 0) (Int32.toNatClampNeg (mr_X5_slotOf P sg a1 (a5 / (sg (20, 0, 0) 2)))) 4) (23, 0, 0) (Int32.toNatClampNeg (((4 : Int32) * a1) + a3)) 0) (24, 0, 0) (Int32.toNatClampNeg a1)) + (1 : Int32))]) (rest := []) X hH hS hz (rf_20 hSh) rfl ok_X5_done (mk_X5_done (l := l) (P := P) hSh (wk_up (wk_up sg (29, 0, 0) (Int32.toNatClampNeg (mr_X5_slotOf P sg a1 (a5 / (sg (20, 0, 0) 2)))) 4) (23, 0, 0) (Int32.toNatClampNeg (((4 : Int32) * a1) + a3)) 0) a1 (((wk_up (wk_up sg (29, 0, 0) (Int32.toNatClampNeg (mr_X5_slotOf P sg a1 (a5 / (sg (20, 0, 0) 2)))) 4) (23, 0, 0) (Int32.toNatClampNeg (((4 : Int32) * a1) + a3)) 0) (24, 0, 0) (Int32.toNatClampNeg a1)) + (1 : Int32))  o30) ml_X5_97 ⟨by decide, by decide, by decide, by decide⟩ rfl hl.1 rfl (Nat.le_of_ble_eq_true rfl) dX5_move_244) hS (fun H locs hH hS => ?_)
              exact wk_iret (pc := 247) X hH hS hr hlocks (by rw [mr_X5_move, if_neg h1, if_neg h4, if_pos h5, if_neg h10, if_neg h22, if_pos h24]) (by rw [ms_X5_move, if_neg h1, if_neg h4, if_pos h5, if_neg h10, if_neg h22, if_pos h24]) dX5_move_247
          · have hg := hg.1 h22
            refine lv_iconst (pc := 179) (v := 1) hx hb dX5_move_179 (by decide) ?_
            refine lv_goto (pc := 180) (tgt := 184) hx hb dX5_move_180 (by decide) ?_
            refine lv_istore (pc := 184) (lv' := [(10, .int 1), (9, .int (((4 : Int32) * (mr_X5_slotOf P sg a1 (a5 / (sg (20, 0, 0) 2)))) + (a5 - a5 / (sg (20, 0, 0) 2) * (sg (20, 0, 0) 2)))), (8, .int (mr_X5_slotOf P sg a1 (a5 / (sg (20, 0, 0) 2)))), (7, .int (mr_X5_stateOf P sg a1 (a5 / (sg (20, 0, 0) 2)))), (6, .int (a5 / (sg (20, 0, 0) 2))), (0, .ref (ad (20, 0, 0))), (1, .int a1), (2, .int a2), (3, .int a3), (4, .int a4), (5, .int a5)]) hx hb dX5_move_184 hl (by decide) rfl (fun ls hl => ?_)
            refine lv_iload (pc := 186) hx hb dX5_move_186 (lv_at hl 0 rfl) ?_
            refine lv_if_eq (pc := 188) (tgt := 208) hx hb dX5_move_188 (by decide) (fun h31 => absurd h31 (by decide)) (fun _ => ?_)
            refine lv_aload_n (pc := 191) hx hb dX5_move_191 rfl (lv_at hl 5 rfl) ?_
            refine wk_getr (pc := 192) X hH (20, 0, 0) 16 (31, 0, 0) (rf_20 hSh) rfl (by decide) rfl inX5 fl_X5_40 dX5_move_192 ?_
            refine lv_iload (pc := 195) hx hb dX5_move_195 (lv_at hl 1 rfl) ?_
            refine lv_aload_n (pc := 197) hx hb dX5_move_197 rfl (lv_at hl 5 rfl) ?_
            refine wk_getr (pc := 198) X hH (20, 0, 0) 8 (23, 0, 0) (rf_20 hSh) rfl (by decide) rfl inX5 fl_X5_16 dX5_move_198 ?_
            refine lv_iconst (pc := 201) (v := 4) hx hb dX5_move_201 (by decide) ?_
            refine lv_iload_n (pc := 202) hx hb dX5_move_202 rfl (lv_at hl 6 rfl) ?_
            refine lv_imul (pc := 203) hx hb dX5_move_203 ?_
            refine lv_iload_n (pc := 204) hx hb dX5_move_204 rfl (lv_at hl 8 rfl) ?_
            refine lv_iadd (pc := 205) hx hb dX5_move_205 ?_
            obtain ⟨o32, hg⟩ := hg
            refine wk_iald (pc := 206) X hH (23, 0, 0) (rf_23 hSh) o32 dX5_move_206 ?_
            obtain ⟨o33, hg⟩ := hg
            refine wk_iast (pc := 207) X hH hS (31, 0, 0) (rf_31 hSh) o33 dX5_move_207 (fun H locs hH hS => ?_)
            refine lv_iload_n (pc := 208) hx hb dX5_move_208 rfl (lv_at hl 7 rfl) ?_
            refine lv_bipush (pc := 209) (v := 11) hx hb dX5_move_209 (by decide) ?_
            refine lv_icmp_ne (pc := 211) (tgt := 234) hx hb dX5_move_211 (by decide) (fun h34 => ?_) (fun h34 => ?_)
            · have hg := hg.2 h34
              refine lv_aload_n (pc := 234) hx hb dX5_move_234 rfl (lv_at hl 5 rfl) ?_
              refine lv_iload_n (pc := 235) hx hb dX5_move_235 rfl (lv_at hl 6 rfl) ?_
              refine lv_aload_n (pc := 236) hx hb dX5_move_236 rfl (lv_at hl 5 rfl) ?_
              refine wk_getr (pc := 237) X hH (20, 0, 0) 9 (24, 0, 0) (rf_20 hSh) rfl (by decide) rfl inX5 fl_X5_19 dX5_move_237 ?_
              refine lv_iload_n (pc := 240) hx hb dX5_move_240 rfl (lv_at hl 6 rfl) ?_
              obtain ⟨o35, hg⟩ := hg
              refine wk_iald (pc := 241) X hH (24, 0, 0) (rf_24 hSh) o35 dX5_move_241 ?_
              refine lv_iconst (pc := 242) (v := 1) hx hb dX5_move_242 (by decide) ?_
              refine lv_iadd (pc := 243) hx hb dX5_move_243 ?_
              obtain ⟨o36, hg⟩ := hg
              refine wk_ci (wk_rV (pc := 244) (As := [.int a1, .int (((wk_up (wk_up sg (29, 0, 0) (Int32.toNatClampNeg (mr_X5_slotOf P sg a1 (a5 / (sg (20, 0, 0) 2)))) 4) (31, 0, 0) (Int32.toNatClampNeg (((4 : Int32) * (mr_X5_slotOf P sg a1 (a5 / (sg (20, 0, 0) 2)))) + (a5 - a5 / (sg (20, 0, 0) 2) * (sg (20, 0, 0) 2)))) ((wk_up sg (29, 0, 0) (Int32.toNatClampNeg (mr_X5_slotOf P sg a1 (a5 / (sg (20, 0, 0) 2)))) 4) (23, 0, 0) (Int32.toNatClampNeg (((4 : Int32) * a1) + a3)))) (24, 0, 0) (Int32.toNatClampNeg a1)) + (1 : Int32))]) (rest := []) X hH hS hz (rf_20 hSh) rfl ok_X5_done (mk_X5_done (l := l) (P := P) hSh (wk_up (wk_up sg (29, 0, 0) (Int32.toNatClampNeg (mr_X5_slotOf P sg a1 (a5 / (sg (20, 0, 0) 2)))) 4) (31, 0, 0) (Int32.toNatClampNeg (((4 : Int32) * (mr_X5_slotOf P sg a1 (a5 / (sg (20, 0, 0) 2)))) + (a5 - a5 / (sg (20, 0, 0) 2) * (sg (20, 0, 0) 2)))) ((wk_up sg (29, 0, 0) (Int32.toNatClampNeg (mr_X5_slotOf P sg a1 (a5 / (sg (20, 0, 0) 2)))) 4) (23, 0, 0) (Int32.toNatClampNeg (((4 : Int32) * a1) + a3)))) a1 (((wk_up (wk_up sg (29, 0, 0) (Int32.toNatClampNeg (mr_X5_slotOf P sg a1 (a5 / (sg (20, 0, 0) 2)))) 4) (31, 0, 0) (Int32.toNatClampNeg (((4 : Int32) * (mr_X5_slotOf P sg a1 (a5 / (sg (20, 0, 0) 2)))) + (a5 - a5 / (sg (20, 0, 0) 2) * (sg (20, 0, 0) 2)))) ((wk_up sg (29, 0, 0) (Int32.toNatClampNeg (mr_X5_slotOf P sg a1 (a5 / (sg (20, 0, 0) 2)))) 4) (23, 0, 0) (Int32.toNatClampNeg (((4 : Int32) * a1) + a3)))) (24, 0, 0) (Int32.toNatClampNeg a1)) + (1 : Int32))  o36) ml_X5_97 ⟨by decide, by decide, by decide, by decide⟩ rfl hl.1 rfl (Nat.le_of_ble_eq_true rfl) dX5_move_244) hS (fun H locs hH hS => ?_)
              exact wk_iret (pc := 247) X hH hS hr hlocks (by rw [mr_X5_move, if_neg h1, if_neg h4, if_pos h5, if_neg h10, if_pos h22, if_neg h34]) (by rw [ms_X5_move, if_neg h1, if_neg h4, if_pos h5, if_neg h10, if_pos h22, if_neg h34]) dX5_move_247
            · have hg := hg.1 h34
              refine lv_aload_n (pc := 214) hx hb dX5_move_214 rfl (lv_at hl 5 rfl) ?_
              refine wk_getr (pc := 215) X hH (20, 0, 0) 8 (23, 0, 0) (rf_20 hSh) rfl (by decide) rfl inX5 fl_X5_16 dX5_move_215 ?_
              refine lv_iconst (pc := 218) (v := 4) hx hb dX5_move_218 (by decide) ?_
              refine lv_iload_n (pc := 219) hx hb dX5_move_219 rfl (lv_at hl 6 rfl) ?_
              refine lv_imul (pc := 220) hx hb dX5_move_220 ?_
              refine lv_iload_n (pc := 221) hx hb dX5_move_221 rfl (lv_at hl 8 rfl) ?_
              refine lv_iadd (pc := 222) hx hb dX5_move_222 ?_
              refine lv_iload (pc := 223) hx hb dX5_move_223 (lv_at hl 0 rfl) ?_
              refine lv_if_eq (pc := 225) (tgt := 232) hx hb dX5_move_225 (by decide) (fun h37 => absurd h37 (by decide)) (fun _ => ?_)
              refine lv_iconst (pc := 228) (v := 1) hx hb dX5_move_228 (by decide) ?_
              refine lv_goto (pc := 229) (tgt := 233) hx hb dX5_move_229 (by decide) ?_
              obtain ⟨o38, hg⟩ := hg
              refine wk_iast (pc := 233) X hH hS (23, 0, 0) (rf_23 hSh) o38 dX5_move_233 (fun H locs hH hS => ?_)
              refine lv_aload_n (pc := 234) hx hb dX5_move_234 rfl (lv_at hl 5 rfl) ?_
              refine lv_iload_n (pc := 235) hx hb dX5_move_235 rfl (lv_at hl 6 rfl) ?_
              refine lv_aload_n (pc := 236) hx hb dX5_move_236 rfl (lv_at hl 5 rfl) ?_
              refine wk_getr (pc := 237) X hH (20, 0, 0) 9 (24, 0, 0) (rf_20 hSh) rfl (by decide) rfl inX5 fl_X5_19 dX5_move_237 ?_
              refine lv_iload_n (pc := 240) hx hb dX5_move_240 rfl (lv_at hl 6 rfl) ?_
              obtain ⟨o39, hg⟩ := hg
              refine wk_iald (pc := 241) X hH (24, 0, 0) (rf_24 hSh) o39 dX5_move_241 ?_
              refine lv_iconst (pc := 242) (v := 1) hx hb dX5_move_242 (by decide) ?_
              refine lv_iadd (pc := 243) hx hb dX5_move_243 ?_
              obtain ⟨o40, hg⟩ := hg
              refine wk_ci (wk_rV (pc := 244) (As := [.int a1, .int (((wk_up (wk_up (wk_up sg (29, 0, 0) (Int32.toNatClampNeg (mr_X5_slotOf P sg a1 (a5 / (sg (20, 0, 0) 2)))) 4) (31, 0, 0) (Int32.toNatClampNeg (((4 : Int32) * (mr_X5_slotOf P sg a1 (a5 / (sg (20, 0, 0) 2)))) + (a5 - a5 / (sg (20, 0, 0) 2) * (sg (20, 0, 0) 2)))) ((wk_up sg (29, 0, 0) (Int32.toNatClampNeg (mr_X5_slotOf P sg a1 (a5 / (sg (20, 0, 0) 2)))) 4) (23, 0, 0) (Int32.toNatClampNeg (((4 : Int32) * a1) + a3)))) (23, 0, 0) (Int32.toNatClampNeg (((4 : Int32) * a1) + a3)) 1) (24, 0, 0) (Int32.toNatClampNeg a1)) + (1 : Int32))]) (rest := []) X hH hS hz (rf_20 hSh) rfl ok_X5_done (mk_X5_done (l := l) (P := P) hSh (wk_up (wk_up (wk_up sg (29, 0, 0) (Int32.toNatClampNeg (mr_X5_slotOf P sg a1 (a5 / (sg (20, 0, 0) 2)))) 4) (31, 0, 0) (Int32.toNatClampNeg (((4 : Int32) * (mr_X5_slotOf P sg a1 (a5 / (sg (20, 0, 0) 2)))) + (a5 - a5 / (sg (20, 0, 0) 2) * (sg (20, 0, 0) 2)))) ((wk_up sg (29, 0, 0) (Int32.toNatClampNeg (mr_X5_slotOf P sg a1 (a5 / (sg (20, 0, 0) 2)))) 4) (23, 0, 0) (Int32.toNatClampNeg (((4 : Int32) * a1) + a3)))) (23, 0, 0) (Int32.toNatClampNeg (((4 : Int32) * a1) + a3)) 1) a1 (((wk_up (wk_up (wk_up sg (29, 0, 0) (Int32.toNatClampNeg (mr_X5_slotOf P sg a1 (a5 / (sg (20, 0, 0) 2)))) 4) (31, 0, 0) (Int32.toNatClampNeg (((4 : Int32) * (mr_X5_slotOf P sg a1 (a5 / (sg (20, 0, 0) 2)))) + (a5 - a5 / (sg (20, 0, 0) 2) * (sg (20, 0, 0) 2)))) ((wk_up sg (29, 0, 0) (Int32.toNatClampNeg (mr_X5_slotOf P sg a1 (a5 / (sg (20, 0, 0) 2)))) 4) (23, 0, 0) (Int32.toNatClampNeg (((4 : Int32) * a1) + a3)))) (23, 0, 0) (Int32.toNatClampNeg (((4 : Int32) * a1) + a3)) 1) (24, 0, 0) (Int32.toNatClampNeg a1)) + (1 : Int32))  o40) ml_X5_97 ⟨by decide, by decide, by decide, by decide⟩ rfl hl.1 rfl (Nat.le_of_ble_eq_true rfl) dX5_move_244) hS (fun H locs hH hS => ?_)
              exact wk_iret (pc := 247) X hH hS hr hlocks (by rw [mr_X5_move, if_neg h1, if_neg h4, if_pos h5, if_neg h10, if_pos h22, if_pos h34]) (by rw [ms_X5_move, if_neg h1, if_neg h4, if_pos h5, if_neg h10, if_pos h22, if_pos h34]) dX5_move_247
      · have hg := hg.2 h5
        refine lv_iload (pc := 53) hx hb dX5_move_53 (lv_at hl 0 rfl) ?_
        refine lv_iconst (pc := 55) (v := 4) hx hb dX5_move_55 (by decide) ?_
        refine lv_icmp_eq (pc := 56) (tgt := 93) hx hb dX5_move_56 (by decide) (fun h41 => ?_) (fun h41 => ?_)
        · have hg := hg.1 h41
          refine lv_aload_n (pc := 93) hx hb dX5_move_93 rfl (lv_at hl 2 rfl) ?_
          refine lv_iload_n (pc := 94) hx hb dX5_move_94 rfl (lv_at hl 3 rfl) ?_
          refine lv_iload (pc := 95) hx hb dX5_move_95 (lv_at hl 1 rfl) ?_
          obtain ⟨o42, hg⟩ := hg
          refine wk_ci (wk_rV (pc := 97) (As := [.int a1, .int (a5 / (sg (20, 0, 0) 2))]) (rest := []) X hH hS hz (rf_20 hSh) rfl ok_X5_slotOf (mk_X5_slotOf (l := l) (P := P) hSh sg a1 (a5 / (sg (20, 0, 0) 2))  o42) ml_X5_86 ⟨by decide, by decide, by decide, by decide⟩ rfl hl.1 rfl (Nat.le_of_ble_eq_true rfl) dX5_move_97) hS (fun H locs hH hS => ?_)
          refine lv_istore (pc := 100) (lv' := [(8, .int (mr_X5_slotOf P sg a1 (a5 / (sg (20, 0, 0) 2)))), (7, .int (mr_X5_stateOf P sg a1 (a5 / (sg (20, 0, 0) 2)))), (6, .int (a5 / (sg (20, 0, 0) 2))), (0, .ref (ad (20, 0, 0))), (1, .int a1), (2, .int a2), (3, .int a3), (4, .int a4), (5, .int a5)]) hx hb dX5_move_100 hl (by decide) rfl (fun ls hl => ?_)
          refine lv_iconst (pc := 102) (v := 4) hx hb dX5_move_102 (by decide) ?_
          refine lv_iload (pc := 103) hx hb dX5_move_103 (lv_at hl 0 rfl) ?_
          refine lv_imul (pc := 105) hx hb dX5_move_105 ?_
          refine lv_iload (pc := 106) hx hb dX5_move_106 (lv_at hl 8 rfl) ?_
          refine lv_aload_n (pc := 108) hx hb dX5_move_108 rfl (lv_at hl 3 rfl) ?_
          refine wk_geti (pc := 109) X hH (20, 0, 0) 2 (rf_20 hSh) rfl (by decide) rfl inX5 fl_X5_60 dX5_move_109 ?_
          obtain ⟨o43, hg⟩ := hg
          refine lv_irem (pc := 112) hx hb dX5_move_112 o43 ?_
          refine lv_iadd (pc := 113) hx hb dX5_move_113 ?_
          refine lv_istore (pc := 114) (lv' := [(9, .int (((4 : Int32) * (mr_X5_slotOf P sg a1 (a5 / (sg (20, 0, 0) 2)))) + (a5 - a5 / (sg (20, 0, 0) 2) * (sg (20, 0, 0) 2)))), (8, .int (mr_X5_slotOf P sg a1 (a5 / (sg (20, 0, 0) 2)))), (7, .int (mr_X5_stateOf P sg a1 (a5 / (sg (20, 0, 0) 2)))), (6, .int (a5 / (sg (20, 0, 0) 2))), (0, .ref (ad (20, 0, 0))), (1, .int a1), (2, .int a2), (3, .int a3), (4, .int a4), (5, .int a5)]) hx hb dX5_move_114 hl (by decide) rfl (fun ls hl => ?_)
          refine lv_iload_n (pc := 116) hx hb dX5_move_116 rfl (lv_at hl 6 rfl) ?_
          refine lv_bipush (pc := 117) (v := 9) hx hb dX5_move_117 (by decide) ?_
          refine lv_icmp_ne (pc := 119) (tgt := 153) hx hb dX5_move_119 (by decide) (fun _ => ?_) (fun h44 => absurd h44 h4)
          refine lv_aload_n (pc := 153) hx hb dX5_move_153 rfl (lv_at hl 4 rfl) ?_
          refine wk_getr (pc := 154) X hH (20, 0, 0) 14 (29, 0, 0) (rf_20 hSh) rfl (by decide) rfl inX5 fl_X5_34 dX5_move_154 ?_
          refine lv_iload (pc := 157) hx hb dX5_move_157 (lv_at hl 1 rfl) ?_
          refine lv_iconst (pc := 159) (v := 4) hx hb dX5_move_159 (by decide) ?_
          obtain ⟨o45, hg⟩ := hg
          refine wk_iast (pc := 160) X hH hS (29, 0, 0) (rf_29 hSh) o45 dX5_move_160 (fun H locs hH hS => ?_)
          refine lv_iload_n (pc := 161) hx hb dX5_move_161 rfl (lv_at hl 6 rfl) ?_
          refine lv_bipush (pc := 162) (v := 10) hx hb dX5_move_162 (by decide) ?_
          refine lv_icmp_eq (pc := 164) (tgt := 179) hx hb dX5_move_164 (by decide) (fun h46 => ?_) (fun h46 => ?_)
          · have hg := hg.1 h46
            refine lv_iconst (pc := 179) (v := 1) hx hb dX5_move_179 (by decide) ?_
            refine lv_goto (pc := 180) (tgt := 184) hx hb dX5_move_180 (by decide) ?_
            refine lv_istore (pc := 184) (lv' := [(10, .int 1), (9, .int (((4 : Int32) * (mr_X5_slotOf P sg a1 (a5 / (sg (20, 0, 0) 2)))) + (a5 - a5 / (sg (20, 0, 0) 2) * (sg (20, 0, 0) 2)))), (8, .int (mr_X5_slotOf P sg a1 (a5 / (sg (20, 0, 0) 2)))), (7, .int (mr_X5_stateOf P sg a1 (a5 / (sg (20, 0, 0) 2)))), (6, .int (a5 / (sg (20, 0, 0) 2))), (0, .ref (ad (20, 0, 0))), (1, .int a1), (2, .int a2), (3, .int a3), (4, .int a4), (5, .int a5)]) hx hb dX5_move_184 hl (by decide) rfl (fun ls hl => ?_)
            refine lv_iload (pc := 186) hx hb dX5_move_186 (lv_at hl 0 rfl) ?_
            refine lv_if_eq (pc := 188) (tgt := 208) hx hb dX5_move_188 (by decide) (fun h47 => absurd h47 (by decide)) (fun _ => ?_)
            refine lv_aload_n (pc := 191) hx hb dX5_move_191 rfl (lv_at hl 5 rfl) ?_
            refine wk_getr (pc := 192) X hH (20, 0, 0) 16 (31, 0, 0) (rf_20 hSh) rfl (by decide) rfl inX5 fl_X5_40 dX5_move_192 ?_
            refine lv_iload (pc := 195) hx hb dX5_move_195 (lv_at hl 1 rfl) ?_
            refine lv_aload_n (pc := 197) hx hb dX5_move_197 rfl (lv_at hl 5 rfl) ?_
            refine wk_getr (pc := 198) X hH (20, 0, 0) 8 (23, 0, 0) (rf_20 hSh) rfl (by decide) rfl inX5 fl_X5_16 dX5_move_198 ?_
            refine lv_iconst (pc := 201) (v := 4) hx hb dX5_move_201 (by decide) ?_
            refine lv_iload_n (pc := 202) hx hb dX5_move_202 rfl (lv_at hl 6 rfl) ?_
            refine lv_imul (pc := 203) hx hb dX5_move_203 ?_
            refine lv_iload_n (pc := 204) hx hb dX5_move_204 rfl (lv_at hl 8 rfl) ?_
            refine lv_iadd (pc := 205) hx hb dX5_move_205 ?_
            obtain ⟨o48, hg⟩ := hg
            refine wk_iald (pc := 206) X hH (23, 0, 0) (rf_23 hSh) o48 dX5_move_206 ?_
            obtain ⟨o49, hg⟩ := hg
            refine wk_iast (pc := 207) X hH hS (31, 0, 0) (rf_31 hSh) o49 dX5_move_207 (fun H locs hH hS => ?_)
            refine lv_iload_n (pc := 208) hx hb dX5_move_208 rfl (lv_at hl 7 rfl) ?_
            refine lv_bipush (pc := 209) (v := 11) hx hb dX5_move_209 (by decide) ?_
            refine lv_icmp_ne (pc := 211) (tgt := 234) hx hb dX5_move_211 (by decide) (fun h50 => ?_) (fun h50 => ?_)
            · have hg := hg.2 h50
              refine lv_aload_n (pc := 234) hx hb dX5_move_234 rfl (lv_at hl 5 rfl) ?_
              refine lv_iload_n (pc := 235) hx hb dX5_move_235 rfl (lv_at hl 6 rfl) ?_
              refine lv_aload_n (pc := 236) hx hb dX5_move_236 rfl (lv_at hl 5 rfl) ?_
              refine wk_getr (pc := 237) X hH (20, 0, 0) 9 (24, 0, 0) (rf_20 hSh) rfl (by decide) rfl inX5 fl_X5_19 dX5_move_237 ?_
              refine lv_iload_n (pc := 240) hx hb dX5_move_240 rfl (lv_at hl 6 rfl) ?_
              obtain ⟨o51, hg⟩ := hg
              refine wk_iald (pc := 241) X hH (24, 0, 0) (rf_24 hSh) o51 dX5_move_241 ?_
              refine lv_iconst (pc := 242) (v := 1) hx hb dX5_move_242 (by decide) ?_
              refine lv_iadd (pc := 243) hx hb dX5_move_243 ?_
              obtain ⟨o52, hg⟩ := hg
              refine wk_ci (wk_rV (pc := 244) (As := [.int a1, .int (((wk_up (wk_up sg (29, 0, 0) (Int32.toNatClampNeg (mr_X5_slotOf P sg a1 (a5 / (sg (20, 0, 0) 2)))) 4) (31, 0, 0) (Int32.toNatClampNeg (((4 : Int32) * (mr_X5_slotOf P sg a1 (a5 / (sg (20, 0, 0) 2)))) + (a5 - a5 / (sg (20, 0, 0) 2) * (sg (20, 0, 0) 2)))) ((wk_up sg (29, 0, 0) (Int32.toNatClampNeg (mr_X5_slotOf P sg a1 (a5 / (sg (20, 0, 0) 2)))) 4) (23, 0, 0) (Int32.toNatClampNeg (((4 : Int32) * a1) + a3)))) (24, 0, 0) (Int32.toNatClampNeg a1)) + (1 : Int32))]) (rest := []) X hH hS hz (rf_20 hSh) rfl ok_X5_done (mk_X5_done (l := l) (P := P) hSh (wk_up (wk_up sg (29, 0, 0) (Int32.toNatClampNeg (mr_X5_slotOf P sg a1 (a5 / (sg (20, 0, 0) 2)))) 4) (31, 0, 0) (Int32.toNatClampNeg (((4 : Int32) * (mr_X5_slotOf P sg a1 (a5 / (sg (20, 0, 0) 2)))) + (a5 - a5 / (sg (20, 0, 0) 2) * (sg (20, 0, 0) 2)))) ((wk_up sg (29, 0, 0) (Int32.toNatClampNeg (mr_X5_slotOf P sg a1 (a5 / (sg (20, 0, 0) 2)))) 4) (23, 0, 0) (Int32.toNatClampNeg (((4 : Int32) * a1) + a3)))) a1 (((wk_up (wk_up sg (29, 0, 0) (Int32.toNatClampNeg (mr_X5_slotOf P sg a1 (a5 / (sg (20, 0, 0) 2)))) 4) (31, 0, 0) (Int32.toNatClampNeg (((4 : Int32) * (mr_X5_slotOf P sg a1 (a5 / (sg (20, 0, 0) 2)))) + (a5 - a5 / (sg (20, 0, 0) 2) * (sg (20, 0, 0) 2)))) ((wk_up sg (29, 0, 0) (Int32.toNatClampNeg (mr_X5_slotOf P sg a1 (a5 / (sg (20, 0, 0) 2)))) 4) (23, 0, 0) (Int32.toNatClampNeg (((4 : Int32) * a1) + a3)))) (24, 0, 0) (Int32.toNatClampNeg a1)) + (1 : Int32))  o52) ml_X5_97 ⟨by decide, by decide, by decide, by decide⟩ rfl hl.1 rfl (Nat.le_of_ble_eq_true rfl) dX5_move_244) hS (fun H locs hH hS => ?_)
              exact wk_iret (pc := 247) X hH hS hr hlocks (by rw [mr_X5_move, if_neg h1, if_neg h4, if_neg h5, if_pos h41, if_pos h46, if_neg h50]) (by rw [ms_X5_move, if_neg h1, if_neg h4, if_neg h5, if_pos h41, if_pos h46, if_neg h50]) dX5_move_247
            · have hg := hg.1 h50
              refine lv_aload_n (pc := 214) hx hb dX5_move_214 rfl (lv_at hl 5 rfl) ?_
              refine wk_getr (pc := 215) X hH (20, 0, 0) 8 (23, 0, 0) (rf_20 hSh) rfl (by decide) rfl inX5 fl_X5_16 dX5_move_215 ?_
              refine lv_iconst (pc := 218) (v := 4) hx hb dX5_move_218 (by decide) ?_
              refine lv_iload_n (pc := 219) hx hb dX5_move_219 rfl (lv_at hl 6 rfl) ?_
              refine lv_imul (pc := 220) hx hb dX5_move_220 ?_
              refine lv_iload_n (pc := 221) hx hb dX5_move_221 rfl (lv_at hl 8 rfl) ?_
              refine lv_iadd (pc := 222) hx hb dX5_move_222 ?_
              refine lv_iload (pc := 223) hx hb dX5_move_223 (lv_at hl 0 rfl) ?_
              refine lv_if_eq (pc := 225) (tgt := 232) hx hb dX5_move_225 (by decide) (fun h53 => absurd h53 (by decide)) (fun _ => ?_)
              refine lv_iconst (pc := 228) (v := 1) hx hb dX5_move_228 (by decide) ?_
              refine lv_goto (pc := 229) (tgt := 233) hx hb dX5_move_229 (by decide) ?_
              obtain ⟨o54, hg⟩ := hg
              refine wk_iast (pc := 233) X hH hS (23, 0, 0) (rf_23 hSh) o54 dX5_move_233 (fun H locs hH hS => ?_)
              refine lv_aload_n (pc := 234) hx hb dX5_move_234 rfl (lv_at hl 5 rfl) ?_
              refine lv_iload_n (pc := 235) hx hb dX5_move_235 rfl (lv_at hl 6 rfl) ?_
              refine lv_aload_n (pc := 236) hx hb dX5_move_236 rfl (lv_at hl 5 rfl) ?_
              refine wk_getr (pc := 237) X hH (20, 0, 0) 9 (24, 0, 0) (rf_20 hSh) rfl (by decide) rfl inX5 fl_X5_19 dX5_move_237 ?_
              refine lv_iload_n (pc := 240) hx hb dX5_move_240 rfl (lv_at hl 6 rfl) ?_
              obtain ⟨o55, hg⟩ := hg
              refine wk_iald (pc := 241) X hH (24, 0, 0) (rf_24 hSh) o55 dX5_move_241 ?_
              refine lv_iconst (pc := 242) (v := 1) hx hb dX5_move_242 (by decide) ?_
              refine lv_iadd (pc := 243) hx hb dX5_move_243 ?_
              obtain ⟨o56, hg⟩ := hg
              refine wk_ci (wk_rV (pc := 244) (As := [.int a1, .int (((wk_up (wk_up (wk_up sg (29, 0, 0) (Int32.toNatClampNeg (mr_X5_slotOf P sg a1 (a5 / (sg (20, 0, 0) 2)))) 4) (31, 0, 0) (Int32.toNatClampNeg (((4 : Int32) * (mr_X5_slotOf P sg a1 (a5 / (sg (20, 0, 0) 2)))) + (a5 - a5 / (sg (20, 0, 0) 2) * (sg (20, 0, 0) 2)))) ((wk_up sg (29, 0, 0) (Int32.toNatClampNeg (mr_X5_slotOf P sg a1 (a5 / (sg (20, 0, 0) 2)))) 4) (23, 0, 0) (Int32.toNatClampNeg (((4 : Int32) * a1) + a3)))) (23, 0, 0) (Int32.toNatClampNeg (((4 : Int32) * a1) + a3)) 1) (24, 0, 0) (Int32.toNatClampNeg a1)) + (1 : Int32))]) (rest := []) X hH hS hz (rf_20 hSh) rfl ok_X5_done (mk_X5_done (l := l) (P := P) hSh (wk_up (wk_up (wk_up sg (29, 0, 0) (Int32.toNatClampNeg (mr_X5_slotOf P sg a1 (a5 / (sg (20, 0, 0) 2)))) 4) (31, 0, 0) (Int32.toNatClampNeg (((4 : Int32) * (mr_X5_slotOf P sg a1 (a5 / (sg (20, 0, 0) 2)))) + (a5 - a5 / (sg (20, 0, 0) 2) * (sg (20, 0, 0) 2)))) ((wk_up sg (29, 0, 0) (Int32.toNatClampNeg (mr_X5_slotOf P sg a1 (a5 / (sg (20, 0, 0) 2)))) 4) (23, 0, 0) (Int32.toNatClampNeg (((4 : Int32) * a1) + a3)))) (23, 0, 0) (Int32.toNatClampNeg (((4 : Int32) * a1) + a3)) 1) a1 (((wk_up (wk_up (wk_up sg (29, 0, 0) (Int32.toNatClampNeg (mr_X5_slotOf P sg a1 (a5 / (sg (20, 0, 0) 2)))) 4) (31, 0, 0) (Int32.toNatClampNeg (((4 : Int32) * (mr_X5_slotOf P sg a1 (a5 / (sg (20, 0, 0) 2)))) + (a5 - a5 / (sg (20, 0, 0) 2) * (sg (20, 0, 0) 2)))) ((wk_up sg (29, 0, 0) (Int32.toNatClampNeg (mr_X5_slotOf P sg a1 (a5 / (sg (20, 0, 0) 2)))) 4) (23, 0, 0) (Int32.toNatClampNeg (((4 : Int32) * a1) + a3)))) (23, 0, 0) (Int32.toNatClampNeg (((4 : Int32) * a1) + a3)) 1) (24, 0, 0) (Int32.toNatClampNeg a1)) + (1 : Int32))  o56) ml_X5_97 ⟨by decide, by decide, by decide, by decide⟩ rfl hl.1 rfl (Nat.le_of_ble_eq_true rfl) dX5_move_244) hS (fun H locs hH hS => ?_)
              exact wk_iret (pc := 247) X hH hS hr hlocks (by rw [mr_X5_move, if_neg h1, if_neg h4, if_neg h5, if_pos h41, if_pos h46, if_pos h50]) (by rw [ms_X5_move, if_neg h1, if_neg h4, if_neg h5, if_pos h41, if_pos h46, if_pos h50]) dX5_move_247
          · have hg := hg.2 h46
            refine lv_aload_n (pc := 167) hx hb dX5_move_167 rfl (lv_at hl 4 rfl) ?_
            refine wk_getr (pc := 168) X hH (20, 0, 0) 16 (31, 0, 0) (rf_20 hSh) rfl (by decide) rfl inX5 fl_X5_40 dX5_move_168 ?_
            refine lv_iload (pc := 171) hx hb dX5_move_171 (lv_at hl 0 rfl) ?_
            obtain ⟨o57, hg⟩ := hg
            refine wk_iald (pc := 173) X hH (31, 0, 0) (rf_31 hSh) o57 dX5_move_173 ?_
            refine lv_iload (pc := 174) hx hb dX5_move_174 (lv_at hl 8 rfl) ?_
            refine lv_icmp_ne (pc := 176) (tgt := 183) hx hb dX5_move_176 (by decide) (fun h58 => ?_) (fun h58 => ?_)
            · have hg := hg.2 h58
              refine lv_iconst (pc := 183) (v := 0) hx hb dX5_move_183 (by decide) ?_
              refine lv_istore (pc := 184) (lv' := [(10, .int 0), (9, .int (((4 : Int32) * (mr_X5_slotOf P sg a1 (a5 / (sg (20, 0, 0) 2)))) + (a5 - a5 / (sg (20, 0, 0) 2) * (sg (20, 0, 0) 2)))), (8, .int (mr_X5_slotOf P sg a1 (a5 / (sg (20, 0, 0) 2)))), (7, .int (mr_X5_stateOf P sg a1 (a5 / (sg (20, 0, 0) 2)))), (6, .int (a5 / (sg (20, 0, 0) 2))), (0, .ref (ad (20, 0, 0))), (1, .int a1), (2, .int a2), (3, .int a3), (4, .int a4), (5, .int a5)]) hx hb dX5_move_184 hl (by decide) rfl (fun ls hl => ?_)
              refine lv_iload (pc := 186) hx hb dX5_move_186 (lv_at hl 0 rfl) ?_
              refine lv_if_eq (pc := 188) (tgt := 208) hx hb dX5_move_188 (by decide) (fun _ => ?_) (fun h59 => absurd (by decide) h59)
              refine lv_iload_n (pc := 208) hx hb dX5_move_208 rfl (lv_at hl 7 rfl) ?_
              refine lv_bipush (pc := 209) (v := 11) hx hb dX5_move_209 (by decide) ?_
              refine lv_icmp_ne (pc := 211) (tgt := 234) hx hb dX5_move_211 (by decide) (fun h60 => ?_) (fun h60 => ?_)
              · have hg := hg.2 h60
                refine lv_aload_n (pc := 234) hx hb dX5_move_234 rfl (lv_at hl 5 rfl) ?_
                refine lv_iload_n (pc := 235) hx hb dX5_move_235 rfl (lv_at hl 6 rfl) ?_
                refine lv_aload_n (pc := 236) hx hb dX5_move_236 rfl (lv_at hl 5 rfl) ?_
                refine wk_getr (pc := 237) X hH (20, 0, 0) 9 (24, 0, 0) (rf_20 hSh) rfl (by decide) rfl inX5 fl_X5_19 dX5_move_237 ?_
                refine lv_iload_n (pc := 240) hx hb dX5_move_240 rfl (lv_at hl 6 rfl) ?_
                obtain ⟨o61, hg⟩ := hg
                refine wk_iald (pc := 241) X hH (24, 0, 0) (rf_24 hSh) o61 dX5_move_241 ?_
                refine lv_iconst (pc := 242) (v := 1) hx hb dX5_move_242 (by decide) ?_
                refine lv_iadd (pc := 243) hx hb dX5_move_243 ?_
                obtain ⟨o62, hg⟩ := hg
                refine wk_ci (wk_rV (pc := 244) (As := [.int a1, .int (((wk_up sg (29, 0, 0) (Int32.toNatClampNeg (mr_X5_slotOf P sg a1 (a5 / (sg (20, 0, 0) 2)))) 4) (24, 0, 0) (Int32.toNatClampNeg a1)) + (1 : Int32))]) (rest := []) X hH hS hz (rf_20 hSh) rfl ok_X5_done (mk_X5_done (l := l) (P := P) hSh (wk_up sg (29, 0, 0) (Int32.toNatClampNeg (mr_X5_slotOf P sg a1 (a5 / (sg (20, 0, 0) 2)))) 4) a1 (((wk_up sg (29, 0, 0) (Int32.toNatClampNeg (mr_X5_slotOf P sg a1 (a5 / (sg (20, 0, 0) 2)))) 4) (24, 0, 0) (Int32.toNatClampNeg a1)) + (1 : Int32))  o62) ml_X5_97 ⟨by decide, by decide, by decide, by decide⟩ rfl hl.1 rfl (Nat.le_of_ble_eq_true rfl) dX5_move_244) hS (fun H locs hH hS => ?_)
                exact wk_iret (pc := 247) X hH hS hr hlocks (by rw [mr_X5_move, if_neg h1, if_neg h4, if_neg h5, if_pos h41, if_neg h46, if_neg h58, if_neg h60]) (by rw [ms_X5_move, if_neg h1, if_neg h4, if_neg h5, if_pos h41, if_neg h46, if_neg h58, if_neg h60]) dX5_move_247
              · have hg := hg.1 h60
                refine lv_aload_n (pc := 214) hx hb dX5_move_214 rfl (lv_at hl 5 rfl) ?_
                refine wk_getr (pc := 215) X hH (20, 0, 0) 8 (23, 0, 0) (rf_20 hSh) rfl (by decide) rfl inX5 fl_X5_16 dX5_move_215 ?_
                refine lv_iconst (pc := 218) (v := 4) hx hb dX5_move_218 (by decide) ?_
                refine lv_iload_n (pc := 219) hx hb dX5_move_219 rfl (lv_at hl 6 rfl) ?_
                refine lv_imul (pc := 220) hx hb dX5_move_220 ?_
                refine lv_iload_n (pc := 221) hx hb dX5_move_221 rfl (lv_at hl 8 rfl) ?_
                refine lv_iadd (pc := 222) hx hb dX5_move_222 ?_
                refine lv_iload (pc := 223) hx hb dX5_move_223 (lv_at hl 0 rfl) ?_
                refine lv_if_eq (pc := 225) (tgt := 232) hx hb dX5_move_225 (by decide) (fun _ => ?_) (fun h63 => absurd (by decide) h63)
                refine lv_iconst (pc := 232) (v := 0) hx hb dX5_move_232 (by decide) ?_
                obtain ⟨o64, hg⟩ := hg
                refine wk_iast (pc := 233) X hH hS (23, 0, 0) (rf_23 hSh) o64 dX5_move_233 (fun H locs hH hS => ?_)
                refine lv_aload_n (pc := 234) hx hb dX5_move_234 rfl (lv_at hl 5 rfl) ?_
                refine lv_iload_n (pc := 235) hx hb dX5_move_235 rfl (lv_at hl 6 rfl) ?_
                refine lv_aload_n (pc := 236) hx hb dX5_move_236 rfl (lv_at hl 5 rfl) ?_
                refine wk_getr (pc := 237) X hH (20, 0, 0) 9 (24, 0, 0) (rf_20 hSh) rfl (by decide) rfl inX5 fl_X5_19 dX5_move_237 ?_
                refine lv_iload_n (pc := 240) hx hb dX5_move_240 rfl (lv_at hl 6 rfl) ?_
                obtain ⟨o65, hg⟩ := hg
                refine wk_iald (pc := 241) X hH (24, 0, 0) (rf_24 hSh) o65 dX5_move_241 ?_
                refine lv_iconst (pc := 242) (v := 1) hx hb dX5_move_242 (by decide) ?_
                refine lv_iadd (pc := 243) hx hb dX5_move_243 ?_
                obtain ⟨o66, hg⟩ := hg
                refine wk_ci (wk_rV (pc := 244) (As := [.int a1, .int (((wk_up (wk_up sg (29, 0, 0) (Int32.toNatClampNeg (mr_X5_slotOf P sg a1 (a5 / (sg (20, 0, 0) 2)))) 4) (23, 0, 0) (Int32.toNatClampNeg (((4 : Int32) * a1) + a3)) 0) (24, 0, 0) (Int32.toNatClampNeg a1)) + (1 : Int32))]) (rest := []) X hH hS hz (rf_20 hSh) rfl ok_X5_done (mk_X5_done (l := l) (P := P) hSh (wk_up (wk_up sg (29, 0, 0) (Int32.toNatClampNeg (mr_X5_slotOf P sg a1 (a5 / (sg (20, 0, 0) 2)))) 4) (23, 0, 0) (Int32.toNatClampNeg (((4 : Int32) * a1) + a3)) 0) a1 (((wk_up (wk_up sg (29, 0, 0) (Int32.toNatClampNeg (mr_X5_slotOf P sg a1 (a5 / (sg (20, 0, 0) 2)))) 4) (23, 0, 0) (Int32.toNatClampNeg (((4 : Int32) * a1) + a3)) 0) (24, 0, 0) (Int32.toNatClampNeg a1)) + (1 : Int32))  o66) ml_X5_97 ⟨by decide, by decide, by decide, by decide⟩ rfl hl.1 rfl (Nat.le_of_ble_eq_true rfl) dX5_move_244) hS (fun H locs hH hS => ?_)
                exact wk_iret (pc := 247) X hH hS hr hlocks (by rw [mr_X5_move, if_neg h1, if_neg h4, if_neg h5, if_pos h41, if_neg h46, if_neg h58, if_pos h60]) (by rw [ms_X5_move, if_neg h1, if_neg h4, if_neg h5, if_pos h41, if_neg h46, if_neg h58, if_pos h60]) dX5_move_247
            · have hg := hg.1 h58
              refine lv_iconst (pc := 179) (v := 1) hx hb dX5_move_179 (by decide) ?_
              refine lv_goto (pc := 180) (tgt := 184) hx hb dX5_move_180 (by decide) ?_
              refine lv_istore (pc := 184) (lv' := [(10, .int 1), (9, .int (((4 : Int32) * (mr_X5_slotOf P sg a1 (a5 / (sg (20, 0, 0) 2)))) + (a5 - a5 / (sg (20, 0, 0) 2) * (sg (20, 0, 0) 2)))), (8, .int (mr_X5_slotOf P sg a1 (a5 / (sg (20, 0, 0) 2)))), (7, .int (mr_X5_stateOf P sg a1 (a5 / (sg (20, 0, 0) 2)))), (6, .int (a5 / (sg (20, 0, 0) 2))), (0, .ref (ad (20, 0, 0))), (1, .int a1), (2, .int a2), (3, .int a3), (4, .int a4), (5, .int a5)]) hx hb dX5_move_184 hl (by decide) rfl (fun ls hl => ?_)
              refine lv_iload (pc := 186) hx hb dX5_move_186 (lv_at hl 0 rfl) ?_
              refine lv_if_eq (pc := 188) (tgt := 208) hx hb dX5_move_188 (by decide) (fun h67 => absurd h67 (by decide)) (fun _ => ?_)
              refine lv_aload_n (pc := 191) hx hb dX5_move_191 rfl (lv_at hl 5 rfl) ?_
              refine wk_getr (pc := 192) X hH (20, 0, 0) 16 (31, 0, 0) (rf_20 hSh) rfl (by decide) rfl inX5 fl_X5_40 dX5_move_192 ?_
              refine lv_iload (pc := 195) hx hb dX5_move_195 (lv_at hl 1 rfl) ?_
              refine lv_aload_n (pc := 197) hx hb dX5_move_197 rfl (lv_at hl 5 rfl) ?_
              refine wk_getr (pc := 198) X hH (20, 0, 0) 8 (23, 0, 0) (rf_20 hSh) rfl (by decide) rfl inX5 fl_X5_16 dX5_move_198 ?_
              refine lv_iconst (pc := 201) (v := 4) hx hb dX5_move_201 (by decide) ?_
              refine lv_iload_n (pc := 202) hx hb dX5_move_202 rfl (lv_at hl 6 rfl) ?_
              refine lv_imul (pc := 203) hx hb dX5_move_203 ?_
              refine lv_iload_n (pc := 204) hx hb dX5_move_204 rfl (lv_at hl 8 rfl) ?_
              refine lv_iadd (pc := 205) hx hb dX5_move_205 ?_
              obtain ⟨o68, hg⟩ := hg
              refine wk_iald (pc := 206) X hH (23, 0, 0) (rf_23 hSh) o68 dX5_move_206 ?_
              obtain ⟨o69, hg⟩ := hg
              refine wk_iast (pc := 207) X hH hS (31, 0, 0) (rf_31 hSh) o69 dX5_move_207 (fun H locs hH hS => ?_)
              refine lv_iload_n (pc := 208) hx hb dX5_move_208 rfl (lv_at hl 7 rfl) ?_
              refine lv_bipush (pc := 209) (v := 11) hx hb dX5_move_209 (by decide) ?_
              refine lv_icmp_ne (pc := 211) (tgt := 234) hx hb dX5_move_211 (by decide) (fun h70 => ?_) (fun h70 => ?_)
              · have hg := hg.2 h70
                refine lv_aload_n (pc := 234) hx hb dX5_move_234 rfl (lv_at hl 5 rfl) ?_
                refine lv_iload_n (pc := 235) hx hb dX5_move_235 rfl (lv_at hl 6 rfl) ?_
                refine lv_aload_n (pc := 236) hx hb dX5_move_236 rfl (lv_at hl 5 rfl) ?_
                refine wk_getr (pc := 237) X hH (20, 0, 0) 9 (24, 0, 0) (rf_20 hSh) rfl (by decide) rfl inX5 fl_X5_19 dX5_move_237 ?_
                refine lv_iload_n (pc := 240) hx hb dX5_move_240 rfl (lv_at hl 6 rfl) ?_
                obtain ⟨o71, hg⟩ := hg
                refine wk_iald (pc := 241) X hH (24, 0, 0) (rf_24 hSh) o71 dX5_move_241 ?_
                refine lv_iconst (pc := 242) (v := 1) hx hb dX5_move_242 (by decide) ?_
                refine lv_iadd (pc := 243) hx hb dX5_move_243 ?_
                obtain ⟨o72, hg⟩ := hg
                refine wk_ci (wk_rV (pc := 244) (As := [.int a1, .int (((wk_up (wk_up sg (29, 0, 0) (Int32.toNatClampNeg (mr_X5_slotOf P sg a1 (a5 / (sg (20, 0, 0) 2)))) 4) (31, 0, 0) (Int32.toNatClampNeg (((4 : Int32) * (mr_X5_slotOf P sg a1 (a5 / (sg (20, 0, 0) 2)))) + (a5 - a5 / (sg (20, 0, 0) 2) * (sg (20, 0, 0) 2)))) ((wk_up sg (29, 0, 0) (Int32.toNatClampNeg (mr_X5_slotOf P sg a1 (a5 / (sg (20, 0, 0) 2)))) 4) (23, 0, 0) (Int32.toNatClampNeg (((4 : Int32) * a1) + a3)))) (24, 0, 0) (Int32.toNatClampNeg a1)) + (1 : Int32))]) (rest := []) X hH hS hz (rf_20 hSh) rfl ok_X5_done (mk_X5_done (l := l) (P := P) hSh (wk_up (wk_up sg (29, 0, 0) (Int32.toNatClampNeg (mr_X5_slotOf P sg a1 (a5 / (sg (20, 0, 0) 2)))) 4) (31, 0, 0) (Int32.toNatClampNeg (((4 : Int32) * (mr_X5_slotOf P sg a1 (a5 / (sg (20, 0, 0) 2)))) + (a5 - a5 / (sg (20, 0, 0) 2) * (sg (20, 0, 0) 2)))) ((wk_up sg (29, 0, 0) (Int32.toNatClampNeg (mr_X5_slotOf P sg a1 (a5 / (sg (20, 0, 0) 2)))) 4) (23, 0, 0) (Int32.toNatClampNeg (((4 : Int32) * a1) + a3)))) a1 (((wk_up (wk_up sg (29, 0, 0) (Int32.toNatClampNeg (mr_X5_slotOf P sg a1 (a5 / (sg (20, 0, 0) 2)))) 4) (31, 0, 0) (Int32.toNatClampNeg (((4 : Int32) * (mr_X5_slotOf P sg a1 (a5 / (sg (20, 0, 0) 2)))) + (a5 - a5 / (sg (20, 0, 0) 2) * (sg (20, 0, 0) 2)))) ((wk_up sg (29, 0, 0) (Int32.toNatClampNeg (mr_X5_slotOf P sg a1 (a5 / (sg (20, 0, 0) 2)))) 4) (23, 0, 0) (Int32.toNatClampNeg (((4 : Int32) * a1) + a3)))) (24, 0, 0) (Int32.toNatClampNeg a1)) + (1 : Int32))  o72) ml_X5_97 ⟨by decide, by decide, by decide, by decide⟩ rfl hl.1 rfl (Nat.le_of_ble_eq_true rfl) dX5_move_244) hS (fun H locs hH hS => ?_)
                exact wk_iret (pc := 247) X hH hS hr hlocks (by rw [mr_X5_move, if_neg h1, if_neg h4, if_neg h5, if_pos h41, if_neg h46, if_pos h58, if_neg h70]) (by rw [ms_X5_move, if_neg h1, if_neg h4, if_neg h5, if_pos h41, if_neg h46, if_pos h58, if_neg h70]) dX5_move_247
              · have hg := hg.1 h70
                refine lv_aload_n (pc := 214) hx hb dX5_move_214 rfl (lv_at hl 5 rfl) ?_
                refine wk_getr (pc := 215) X hH (20, 0, 0) 8 (23, 0, 0) (rf_20 hSh) rfl (by decide) rfl inX5 fl_X5_16 dX5_move_215 ?_
                refine lv_iconst (pc := 218) (v := 4) hx hb dX5_move_218 (by decide) ?_
                refine lv_iload_n (pc := 219) hx hb dX5_move_219 rfl (lv_at hl 6 rfl) ?_
                refine lv_imul (pc := 220) hx hb dX5_move_220 ?_
                refine lv_iload_n (pc := 221) hx hb dX5_move_221 rfl (lv_at hl 8 rfl) ?_
                refine lv_iadd (pc := 222) hx hb dX5_move_222 ?_
                refine lv_iload (pc := 223) hx hb dX5_move_223 (lv_at hl 0 rfl) ?_
                refine lv_if_eq (pc := 225) (tgt := 232) hx hb dX5_move_225 (by decide) (fun h73 => absurd h73 (by decide)) (fun _ => ?_)
                refine lv_iconst (pc := 228) (v := 1) hx hb dX5_move_228 (by decide) ?_
                refine lv_goto (pc := 229) (tgt := 233) hx hb dX5_move_229 (by decide) ?_
                obtain ⟨o74, hg⟩ := hg
                refine wk_iast (pc := 233) X hH hS (23, 0, 0) (rf_23 hSh) o74 dX5_move_233 (fun H locs hH hS => ?_)
                refine lv_aload_n (pc := 234) hx hb dX5_move_234 rfl (lv_at hl 5 rfl) ?_
                refine lv_iload_n (pc := 235) hx hb dX5_move_235 rfl (lv_at hl 6 rfl) ?_
                refine lv_aload_n (pc := 236) hx hb dX5_move_236 rfl (lv_at hl 5 rfl) ?_
                refine wk_getr (pc := 237) X hH (20, 0, 0) 9 (24, 0, 0) (rf_20 hSh) rfl (by decide) rfl inX5 fl_X5_19 dX5_move_237 ?_
                refine lv_iload_n (pc := 240) hx hb dX5_move_240 rfl (lv_at hl 6 rfl) ?_
                obtain ⟨o75, hg⟩ := hg
                refine wk_iald (pc := 241) X hH (24, 0, 0) (rf_24 hSh) o75 dX5_move_241 ?_
                refine lv_iconst (pc := 242) (v := 1) hx hb dX5_move_242 (by decide) ?_
                refine lv_iadd (pc := 243) hx hb dX5_move_243 ?_
                obtain ⟨o76, hg⟩ := hg
                refine wk_ci (wk_rV (pc := 244) (As := [.int a1, .int (((wk_up (wk_up (wk_up sg (29, 0, 0) (Int32.toNatClampNeg (mr_X5_slotOf P sg a1 (a5 / (sg (20, 0, 0) 2)))) 4) (31, 0, 0) (Int32.toNatClampNeg (((4 : Int32) * (mr_X5_slotOf P sg a1 (a5 / (sg (20, 0, 0) 2)))) + (a5 - a5 / (sg (20, 0, 0) 2) * (sg (20, 0, 0) 2)))) ((wk_up sg (29, 0, 0) (Int32.toNatClampNeg (mr_X5_slotOf P sg a1 (a5 / (sg (20, 0, 0) 2)))) 4) (23, 0, 0) (Int32.toNatClampNeg (((4 : Int32) * a1) + a3)))) (23, 0, 0) (Int32.toNatClampNeg (((4 : Int32) * a1) + a3)) 1) (24, 0, 0) (Int32.toNatClampNeg a1)) + (1 : Int32))]) (rest := []) X hH hS hz (rf_20 hSh) rfl ok_X5_done (mk_X5_done (l := l) (P := P) hSh (wk_up (wk_up (wk_up sg (29, 0, 0) (Int32.toNatClampNeg (mr_X5_slotOf P sg a1 (a5 / (sg (20, 0, 0) 2)))) 4) (31, 0, 0) (Int32.toNatClampNeg (((4 : Int32) * (mr_X5_slotOf P sg a1 (a5 / (sg (20, 0, 0) 2)))) + (a5 - a5 / (sg (20, 0, 0) 2) * (sg (20, 0, 0) 2)))) ((wk_up sg (29, 0, 0) (Int32.toNatClampNeg (mr_X5_slotOf P sg a1 (a5 / (sg (20, 0, 0) 2)))) 4) (23, 0, 0) (Int32.toNatClampNeg (((4 : Int32) * a1) + a3)))) (23, 0, 0) (Int32.toNatClampNeg (((4 : Int32) * a1) + a3)) 1) a1 (((wk_up (wk_up (wk_up sg (29, 0, 0) (Int32.toNatClampNeg (mr_X5_slotOf P sg a1 (a5 / (sg (20, 0, 0) 2)))) 4) (31, 0, 0) (Int32.toNatClampNeg (((4 : Int32) * (mr_X5_slotOf P sg a1 (a5 / (sg (20, 0, 0) 2)))) + (a5 - a5 / (sg (20, 0, 0) 2) * (sg (20, 0, 0) 2)))) ((wk_up sg (29, 0, 0) (Int32.toNatClampNeg (mr_X5_slotOf P sg a1 (a5 / (sg (20, 0, 0) 2)))) 4) (23, 0, 0) (Int32.toNatClampNeg (((4 : Int32) * a1) + a3)))) (23, 0, 0) (Int32.toNatClampNeg (((4 : Int32) * a1) + a3)) 1) (24, 0, 0) (Int32.toNatClampNeg a1)) + (1 : Int32))  o76) ml_X5_97 ⟨by decide, by decide, by decide, by decide⟩ rfl hl.1 rfl (Nat.le_of_ble_eq_true rfl) dX5_move_244) hS (fun H locs hH hS => ?_)
                exact wk_iret (pc := 247) X hH hS hr hlocks (by rw [mr_X5_move, if_neg h1, if_neg h4, if_neg h5, if_pos h41, if_neg h46, if_pos h58, if_pos h70]) (by rw [ms_X5_move, if_neg h1, if_neg h4, if_neg h5, if_pos h41, if_neg h46, if_pos h58, if_pos h70]) dX5_move_247
        · have hg := hg.2 h41
          refine lv_aload_n (pc := 59) hx hb dX5_move_59 rfl (lv_at hl 2 rfl) ?_
          refine wk_getr (pc := 60) X hH (20, 0, 0) 10 (25, 0, 0) (rf_20 hSh) rfl (by decide) rfl inX5 fl_X5_22 dX5_move_60 ?_
          refine lv_iload_n (pc := 63) hx hb dX5_move_63 rfl (lv_at hl 3 rfl) ?_
          refine lv_iconst (pc := 64) (v := 1) hx hb dX5_move_64 (by decide) ?_
          obtain ⟨o77, hg⟩ := hg
          refine wk_iast (pc := 65) X hH hS (25, 0, 0) (rf_25 hSh) o77 dX5_move_65 (fun H locs hH hS => ?_)
          refine lv_aload_n (pc := 66) hx hb dX5_move_66 rfl (lv_at hl 2 rfl) ?_
          refine wk_getr (pc := 67) X hH (20, 0, 0) 12 (27, 0, 0) (rf_20 hSh) rfl (by decide) rfl inX5 fl_X5_28 dX5_move_67 ?_
          refine lv_iload_n (pc := 70) hx hb dX5_move_70 rfl (lv_at hl 3 rfl) ?_
          refine lv_iload_n (pc := 71) hx hb dX5_move_71 rfl (lv_at hl 4 rfl) ?_
          refine lv_bipush (pc := 72) (v := 9) hx hb dX5_move_72 (by decide) ?_
          refine lv_icmp_ne (pc := 74) (tgt := 81) hx hb dX5_move_74 (by decide) (fun _ => ?_) (fun h78 => absurd h78 h4)
          refine lv_iconst (pc := 81) (v := 2) hx hb dX5_move_81 (by decide) ?_
          obtain ⟨o79, hg⟩ := hg
          refine wk_iast (pc := 82) X hH hS (27, 0, 0) (rf_27 hSh) o79 dX5_move_82 (fun H locs hH hS => ?_)
          refine lv_aload_n (pc := 83) hx hb dX5_move_83 rfl (lv_at hl 2 rfl) ?_
          refine wk_getr (pc := 84) X hH (20, 0, 0) 13 (28, 0, 0) (rf_20 hSh) rfl (by decide) rfl inX5 fl_X5_31 dX5_move_84 ?_
          refine lv_iload_n (pc := 87) hx hb dX5_move_87 rfl (lv_at hl 3 rfl) ?_
          refine lv_iload (pc := 88) hx hb dX5_move_88 (lv_at hl 1 rfl) ?_
          obtain ⟨o80, hg⟩ := hg
          refine wk_iast (pc := 90) X hH hS (28, 0, 0) (rf_28 hSh) o80 dX5_move_90 (fun H locs hH hS => ?_)
          refine lv_iconst (pc := 91) (v := 2) hx hb dX5_move_91 (by decide) ?_
          exact wk_iret (pc := 92) X hH hS hr hlocks (by rw [mr_X5_move, if_neg h1, if_neg h4, if_neg h5, if_neg h41]) (by rw [ms_X5_move, if_neg h1, if_neg h4, if_neg h5, if_neg h41]) dX5_move_92
    · have hg := hg.1 h4
      refine lv_iload (pc := 39) hx hb dX5_move_39 (lv_at hl 0 rfl) ?_
      refine lv_if_ne (pc := 41) (tgt := 93) hx hb dX5_move_41 (by decide) (fun h81 => ?_) (fun h81 => ?_)
      · have hg := hg.2 h81
        refine lv_aload_n (pc := 93) hx hb dX5_move_93 rfl (lv_at hl 2 rfl) ?_
        refine lv_iload_n (pc := 94) hx hb dX5_move_94 rfl (lv_at hl 3 rfl) ?_
        refine lv_iload (pc := 95) hx hb dX5_move_95 (lv_at hl 1 rfl) ?_
        obtain ⟨o82, hg⟩ := hg
        refine wk_ci (wk_rV (pc := 97) (As := [.int a1, .int (a5 / (sg (20, 0, 0) 2))]) (rest := []) X hH hS hz (rf_20 hSh) rfl ok_X5_slotOf (mk_X5_slotOf (l := l) (P := P) hSh sg a1 (a5 / (sg (20, 0, 0) 2))  o82) ml_X5_86 ⟨by decide, by decide, by decide, by decide⟩ rfl hl.1 rfl (Nat.le_of_ble_eq_true rfl) dX5_move_97) hS (fun H locs hH hS => ?_)
        refine lv_istore (pc := 100) (lv' := [(8, .int (mr_X5_slotOf P sg a1 (a5 / (sg (20, 0, 0) 2)))), (7, .int (mr_X5_stateOf P sg a1 (a5 / (sg (20, 0, 0) 2)))), (6, .int (a5 / (sg (20, 0, 0) 2))), (0, .ref (ad (20, 0, 0))), (1, .int a1), (2, .int a2), (3, .int a3), (4, .int a4), (5, .int a5)]) hx hb dX5_move_100 hl (by decide) rfl (fun ls hl => ?_)
        refine lv_iconst (pc := 102) (v := 4) hx hb dX5_move_102 (by decide) ?_
        refine lv_iload (pc := 103) hx hb dX5_move_103 (lv_at hl 0 rfl) ?_
        refine lv_imul (pc := 105) hx hb dX5_move_105 ?_
        refine lv_iload (pc := 106) hx hb dX5_move_106 (lv_at hl 8 rfl) ?_
        refine lv_aload_n (pc := 108) hx hb dX5_move_108 rfl (lv_at hl 3 rfl) ?_
        refine wk_geti (pc := 109) X hH (20, 0, 0) 2 (rf_20 hSh) rfl (by decide) rfl inX5 fl_X5_60 dX5_move_109 ?_
        obtain ⟨o83, hg⟩ := hg
        refine lv_irem (pc := 112) hx hb dX5_move_112 o83 ?_
        refine lv_iadd (pc := 113) hx hb dX5_move_113 ?_
        refine lv_istore (pc := 114) (lv' := [(9, .int (((4 : Int32) * (mr_X5_slotOf P sg a1 (a5 / (sg (20, 0, 0) 2)))) + (a5 - a5 / (sg (20, 0, 0) 2) * (sg (20, 0, 0) 2)))), (8, .int (mr_X5_slotOf P sg a1 (a5 / (sg (20, 0, 0) 2)))), (7, .int (mr_X5_stateOf P sg a1 (a5 / (sg (20, 0, 0) 2)))), (6, .int (a5 / (sg (20, 0, 0) 2))), (0, .ref (ad (20, 0, 0))), (1, .int a1), (2, .int a2), (3, .int a3), (4, .int a4), (5, .int a5)]) hx hb dX5_move_114 hl (by decide) rfl (fun ls hl => ?_)
        refine lv_iload_n (pc := 116) hx hb dX5_move_116 rfl (lv_at hl 6 rfl) ?_
        refine lv_bipush (pc := 117) (v := 9) hx hb dX5_move_117 (by decide) ?_
        refine lv_icmp_ne (pc := 119) (tgt := 153) hx hb dX5_move_119 (by decide) (fun h84 => absurd h4 h84) (fun _ => ?_)
        refine lv_aload_n (pc := 122) hx hb dX5_move_122 rfl (lv_at hl 4 rfl) ?_
        refine wk_getr (pc := 123) X hH (20, 0, 0) 8 (23, 0, 0) (rf_20 hSh) rfl (by decide) rfl inX5 fl_X5_16 dX5_move_123 ?_
        refine lv_iconst (pc := 126) (v := 4) hx hb dX5_move_126 (by decide) ?_
        refine lv_iload_n (pc := 127) hx hb dX5_move_127 rfl (lv_at hl 5 rfl) ?_
        refine lv_imul (pc := 128) hx hb dX5_move_128 ?_
        refine lv_iload_n (pc := 129) hx hb dX5_move_129 rfl (lv_at hl 7 rfl) ?_
        refine lv_iadd (pc := 130) hx hb dX5_move_130 ?_
        refine lv_aload_n (pc := 131) hx hb dX5_move_131 rfl (lv_at hl 4 rfl) ?_
        refine wk_getr (pc := 132) X hH (20, 0, 0) 16 (31, 0, 0) (rf_20 hSh) rfl (by decide) rfl inX5 fl_X5_40 dX5_move_132 ?_
        refine lv_iload (pc := 135) hx hb dX5_move_135 (lv_at hl 0 rfl) ?_
        obtain ⟨o85, hg⟩ := hg
        refine wk_iald (pc := 137) X hH (31, 0, 0) (rf_31 hSh) o85 dX5_move_137 ?_
        obtain ⟨o86, hg⟩ := hg
        refine wk_iast (pc := 138) X hH hS (23, 0, 0) (rf_23 hSh) o86 dX5_move_138 (fun H locs hH hS => ?_)
        refine lv_aload_n (pc := 139) hx hb dX5_move_139 rfl (lv_at hl 4 rfl) ?_
        refine lv_iload_n (pc := 140) hx hb dX5_move_140 rfl (lv_at hl 5 rfl) ?_
        refine lv_aload_n (pc := 141) hx hb dX5_move_141 rfl (lv_at hl 4 rfl) ?_
        refine wk_getr (pc := 142) X hH (20, 0, 0) 9 (24, 0, 0) (rf_20 hSh) rfl (by decide) rfl inX5 fl_X5_19 dX5_move_142 ?_
        refine lv_iload_n (pc := 145) hx hb dX5_move_145 rfl (lv_at hl 5 rfl) ?_
        obtain ⟨o87, hg⟩ := hg
        refine wk_iald (pc := 146) X hH (24, 0, 0) (rf_24 hSh) o87 dX5_move_146 ?_
        refine lv_iconst (pc := 147) (v := 1) hx hb dX5_move_147 (by decide) ?_
        refine lv_iadd (pc := 148) hx hb dX5_move_148 ?_
        obtain ⟨o88, hg⟩ := hg
        refine wk_ci (wk_rV (pc := 149) (As := [.int a1, .int (((wk_up sg (23, 0, 0) (Int32.toNatClampNeg (((4 : Int32) * a1) + a3)) (sg (31, 0, 0) (Int32.toNatClampNeg (((4 : Int32) * (mr_X5_slotOf P sg a1 (a5 / (sg (20, 0, 0) 2)))) + (a5 - a5 / (sg (20, 0, 0) 2) * (sg (20, 0, 0) 2)))))) (24, 0, 0) (Int32.toNatClampNeg a1)) + (1 : Int32))]) (rest := []) X hH hS hz (rf_20 hSh) rfl ok_X5_done (mk_X5_done (l := l) (P := P) hSh (wk_up sg (23, 0, 0) (Int32.toNatClampNeg (((4 : Int32) * a1) + a3)) (sg (31, 0, 0) (Int32.toNatClampNeg (((4 : Int32) * (mr_X5_slotOf P sg a1 (a5 / (sg (20, 0, 0) 2)))) + (a5 - a5 / (sg (20, 0, 0) 2) * (sg (20, 0, 0) 2)))))) a1 (((wk_up sg (23, 0, 0) (Int32.toNatClampNeg (((4 : Int32) * a1) + a3)) (sg (31, 0, 0) (Int32.toNatClampNeg (((4 : Int32) * (mr_X5_slotOf P sg a1 (a5 / (sg (20, 0, 0) 2)))) + (a5 - a5 / (sg (20, 0, 0) 2) * (sg (20, 0, 0) 2)))))) (24, 0, 0) (Int32.toNatClampNeg a1)) + (1 : Int32))  o88) ml_X5_97 ⟨by decide, by decide, by decide, by decide⟩ rfl hl.1 rfl (Nat.le_of_ble_eq_true rfl) dX5_move_149) hS (fun H locs hH hS => ?_)
        exact wk_iret (pc := 152) X hH hS hr hlocks (by rw [mr_X5_move, if_neg h1, if_pos h4, if_neg h81]) (by rw [ms_X5_move, if_neg h1, if_pos h4, if_neg h81]) dX5_move_152
      · have hg := hg.1 h81
        refine lv_goto (pc := 44) (tgt := 59) hx hb dX5_move_44 (by decide) ?_
        refine lv_aload_n (pc := 59) hx hb dX5_move_59 rfl (lv_at hl 2 rfl) ?_
        refine wk_getr (pc := 60) X hH (20, 0, 0) 10 (25, 0, 0) (rf_20 hSh) rfl (by decide) rfl inX5 fl_X5_22 dX5_move_60 ?_
        refine lv_iload_n (pc := 63) hx hb dX5_move_63 rfl (lv_at hl 3 rfl) ?_
        refine lv_iconst (pc := 64) (v := 1) hx hb dX5_move_64 (by decide) ?_
        obtain ⟨o89, hg⟩ := hg
        refine wk_iast (pc := 65) X hH hS (25, 0, 0) (rf_25 hSh) o89 dX5_move_65 (fun H locs hH hS => ?_)
        refine lv_aload_n (pc := 66) hx hb dX5_move_66 rfl (lv_at hl 2 rfl) ?_
        refine wk_getr (pc := 67) X hH (20, 0, 0) 12 (27, 0, 0) (rf_20 hSh) rfl (by decide) rfl inX5 fl_X5_28 dX5_move_67 ?_
        refine lv_iload_n (pc := 70) hx hb dX5_move_70 rfl (lv_at hl 3 rfl) ?_
        refine lv_iload_n (pc := 71) hx hb dX5_move_71 rfl (lv_at hl 4 rfl) ?_
        refine lv_bipush (pc := 72) (v := 9) hx hb dX5_move_72 (by decide) ?_
        refine lv_icmp_ne (pc := 74) (tgt := 81) hx hb dX5_move_74 (by decide) (fun h90 => absurd h4 h90) (fun _ => ?_)
        refine lv_iconst (pc := 77) (v := 1) hx hb dX5_move_77 (by decide) ?_
        refine lv_goto (pc := 78) (tgt := 82) hx hb dX5_move_78 (by decide) ?_
        obtain ⟨o91, hg⟩ := hg
        refine wk_iast (pc := 82) X hH hS (27, 0, 0) (rf_27 hSh) o91 dX5_move_82 (fun H locs hH hS => ?_)
        refine lv_aload_n (pc := 83) hx hb dX5_move_83 rfl (lv_at hl 2 rfl) ?_
        refine wk_getr (pc := 84) X hH (20, 0, 0) 13 (28, 0, 0) (rf_20 hSh) rfl (by decide) rfl inX5 fl_X5_31 dX5_move_84 ?_
        refine lv_iload_n (pc := 87) hx hb dX5_move_87 rfl (lv_at hl 3 rfl) ?_
        refine lv_iload (pc := 88) hx hb dX5_move_88 (lv_at hl 1 rfl) ?_
        obtain ⟨o92, hg⟩ := hg
        refine wk_iast (pc := 90) X hH hS (28, 0, 0) (rf_28 hSh) o92 dX5_move_90 (fun H locs hH hS => ?_)
        refine lv_iconst (pc := 91) (v := 2) hx hb dX5_move_91 (by decide) ?_
        exact wk_iret (pc := 92) X hH hS hr hlocks (by rw [mr_X5_move, if_neg h1, if_pos h4, if_pos h81]) (by rw [ms_X5_move, if_neg h1, if_pos h4, if_pos h81]) dX5_move_92
  · have hg := hg.1 h1
    refine lv_aload_n (pc := 9) hx hb dX5_move_9 rfl (lv_at hl 0 rfl) ?_
    refine lv_iload_n (pc := 10) hx hb dX5_move_10 rfl (lv_at hl 1 rfl) ?_
    obtain ⟨o93, hg⟩ := hg
    refine wk_ci (wk_rV (pc := 11) (As := [.int a1]) (rest := []) X hH hS hz (rf_20 hSh) rfl ok_X5_trap (mk_X5_trap (l := l) (P := P) hSh sg a1  o93) ml_X5_90 ⟨by decide, by decide, by decide, by decide⟩ rfl hl.1 rfl (Nat.le_of_ble_eq_true rfl) dX5_move_11) hS (fun H locs hH hS => ?_)
    exact wk_iret (pc := 14) X hH hS hr hlocks (by rw [mr_X5_move, if_pos h1]) (by rw [ms_X5_move, if_pos h1]) dX5_move_14
