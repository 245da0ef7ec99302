/-! the model: orders read, improving (printed by wip/whole/m7.py) -/
def sp_X6_reads (N : Nat → Int32) (Z : Nat → Nat → Int32) (x1 : Int32) : Int32 × (Nat → Nat → Int32) :=
  let Z1 : Nat → Nat → Int32 := zu Z 0 6 (sp_X6_signAt N Z x1); let Z2 : Nat → Nat → Int32 := zu Z1 0 5 (x1 + (1 : Int32)); let Z3 : Nat → Nat → Int32 := zu Z2 0 7 (-1 : Int32); let Z4 : Nat → Nat → Int32 := zu Z3 0 8 (-1 : Int32); if (Z4 0 6) = (112 : Int32) then (if (Z4 0 6) = (119 : Int32) then (if (Z4 0 6) = (119 : Int32) then (if (sp_X6_signAt N Z4 (Z4 0 5)) = (44 : Int32) then (let Z5 : Nat → Nat → Int32 := zu Z4 0 5 ((Z4 0 5) + (1 : Int32)); let k158_6 : Int32 × (Nat → Nat → Int32) := sp_X6_number N Z5; let Z7 : Nat → Nat → Int32 := k158_6.2; let Z8 : Nat → Nat → Int32 := zu Z7 0 8 k158_6.1; if (Z8 0 8) = (-1 : Int32) then (((0 : Int32), Z8)) else (if (sp_X6_signAt N Z8 (Z8 0 5)) = (59 : Int32) then (let Z9 : Nat → Nat → Int32 := zu Z8 0 5 ((Z8 0 5) + (1 : Int32)); ((1 : Int32), Z9)) else (((0 : Int32), Z8)))) else (let Z5 : Nat → Nat → Int32 := zu Z4 0 5 ((Z4 0 5) + (1 : Int32)); let Z6 : Nat → Nat → Int32 := zu Z5 0 8 (-1 : Int32); if (Z6 0 8) = (-1 : Int32) then (((0 : Int32), Z6)) else (if (sp_X6_signAt N Z6 (Z6 0 5)) = (59 : Int32) then (let Z7 : Nat → Nat → Int32 := zu Z6 0 5 ((Z6 0 5) + (1 : Int32)); ((1 : Int32), Z7)) else (((0 : Int32), Z6))))) else (if (Z4 0 7) = (-1 : Int32) then (((0 : Int32), Z4)) else (if (sp_X6_signAt N Z4 (Z4 0 5)) = (44 : Int32) then (let Z5 : Nat → Nat → Int32 := zu Z4 0 5 ((Z4 0 5) + (1 : Int32)); let k158_6 : Int32 × (Nat → Nat → Int32) := sp_X6_number N Z5; let Z7 : Nat → Nat → Int32 := k158_6.2; let Z8 : Nat → Nat → Int32 := zu Z7 0 8 k158_6.1; if (Z8 0 8) = (-1 : Int32) then (((0 : Int32), Z8)) else (if (sp_X6_signAt N Z8 (Z8 0 5)) = (59 : Int32) then (let Z9 : Nat → Nat → Int32 := zu Z8 0 5 ((Z8 0 5) + (1 : Int32)); ((1 : Int32), Z9)) else (((0 : Int32), Z8)))) else (let Z5 : Nat → Nat → Int32 := zu Z4 0 5 ((Z4 0 5) + (1 : Int32)); let Z6 : Nat → Nat → Int32 := zu Z5 0 8 (-1 : Int32); if (Z6 0 8) = (-1 : Int32) then (((0 : Int32), Z6)) else (if (sp_X6_signAt N Z6 (Z6 0 5)) = (59 : Int32) then (let Z7 : Nat → Nat → Int32 := zu Z6 0 5 ((Z6 0 5) + (1 : Int32)); ((1 : Int32), Z7)) else (((0 : Int32), Z6))))))) else (let k94_5 : Int32 × (Nat → Nat → Int32) := sp_X6_number N Z4; let Z6 : Nat → Nat → Int32 := k94_5.2; let Z7 : Nat → Nat → Int32 := zu Z6 0 7 k94_5.1; if (Z7 0 6) = (119 : Int32) then (if (sp_X6_signAt N Z7 (Z7 0 5)) = (44 : Int32) then (let Z8 : Nat → Nat → Int32 := zu Z7 0 5 ((Z7 0 5) + (1 : Int32)); let k158_9 : Int32 × (Nat → Nat → Int32) := sp_X6_number N Z8; let Z10 : Nat → Nat → Int32 := k158_9.2; let Z11 : Nat → Nat → Int32 := zu Z10 0 8 k158_9.1; if (Z11 0 8) = (-1 : Int32) then (((0 : Int32), Z11)) else (if (sp_X6_signAt N Z11 (Z11 0 5)) = (59 : Int32) then (let Z12 : Nat → Nat → Int32 := zu Z11 0 5 ((Z11 0 5) + (1 : Int32)); ((1 : Int32), Z12)) else (((0 : Int32), Z11)))) else (let Z8 : Nat → Nat → Int32 := zu Z7 0 5 ((Z7 0 5) + (1 : Int32)); let Z9 : Nat → Nat → Int32 := zu Z8 0 8 (-1 : Int32); if (Z9 0 8) = (-1 : Int32) then (((0 : Int32), Z9)) else (if (sp_X6_signAt N Z9 (Z9 0 5)) = (59 : Int32) then (let Z10 : Nat → Nat → Int32 := zu Z9 0 5 ((Z9 0 5) + (1 : Int32)); ((1 : Int32), Z10)) else (((0 : Int32), Z9))))) else (if (Z7 0 7) = (-1 : Int32) then (((0 : Int32), Z7)) else (if (sp_X6_signAt N Z7 (Z7 0 5)) = (44 : Int32) then (let Z8 : Nat → Nat → Int32 := zu Z7 0 5 ((Z7 0 5) + (1 : Int32)); let k158_9 : Int32 × (Nat → Nat → Int32) := sp_X6_number N Z8; let Z10 : Nat → Nat → Int32 := k158_9.2; let Z11 : Nat → Nat → Int32 := zu Z10 0 8 k158_9.1; if (Z11 0 8) = (-1 : Int32) then (((0 : Int32), Z11)) else (if (sp_X6_signAt N Z11 (Z11 0 5)) = (59 : Int32) then (let Z12 : Nat → Nat → Int32 := zu Z11 0 5 ((Z11 0 5) + (1 : Int32)); ((1 : Int32), Z12)) else (((0 : Int32), Z11)))) else (let Z8 : Nat → Nat → Int32 := zu Z7 0 5 ((Z7 0 5) + (1 : Int32)); let Z9 : Nat → Nat → Int32 := zu Z8 0 8 (-1 : Int32); if (Z9 0 8) = (-1 : Int32) then (((0 : Int32), Z9)) else (if (sp_X6_signAt N Z9 (Z9 0 5)) = (59 : Int32) then (let Z10 : Nat → Nat → Int32 := zu Z9 0 5 ((Z9 0 5) + (1 : Int32)); ((1 : Int32), Z10)) else (((0 : Int32), Z9)))))))) else (if (Z4 0 6) = (109 : Int32) then (if (Z4 0 6) = (119 : Int32) then (if (Z4 0 6) = (119 : Int32) then (if (sp_X6_signAt N Z4 (Z4 0 5)) = (44 : Int32) then (let Z5 : Nat → Nat → Int32 := zu Z4 0 5 ((Z4 0 5) + (1 : Int32)); let k158_6 : Int32 × (Nat → Nat → Int32) := sp_X6_number N Z5; let Z7 : Nat → Nat → Int32 := k158_6.2; let Z8 : Nat → Nat → Int32 := zu Z7 0 8 k158_6.1; if (Z8 0 8) = (-1 : Int32) then (((0 : Int32), Z8)) else (if (sp_X6_signAt N Z8 (Z8 0 5)) = (59 : Int32) then (let Z9 : Nat → Nat → Int32 := zu Z8 0 5 ((Z8 0 5) + (1 : Int32)); ((1 : Int32), Z9)) else (((0 : Int32), Z8)))) else (let Z5 : Nat → Nat → Int32 := zu Z4 0 5 ((Z4 0 5) + (1 : Int32)); let Z6 : Nat → Nat → Int32 := zu Z5 0 8 (-1 : Int32); if (Z6 0 8) = (-1 : Int32) then (((0 : Int32), Z6)) else (if (sp_X6_signAt N Z6 (Z6 0 5)) = (59 : Int32) then (let Z7 : Nat → Nat → Int32 := zu Z6 0 5 ((Z6 0 5) + (1 : Int32)); ((1 : Int32), Z7)) else (((0 : Int32), Z6))))) else (if (Z4 0 7) = (-1 : Int32) then (((0 : Int32), Z4)) else (if (sp_X6_signAt N Z4 (Z4 0 5)) = (44 : Int32) then (let Z5 : Nat → Nat → Int32 := zu Z4 0 5 ((Z4 0 5) + (1 : Int32)); let k158_6 : Int32 × (Nat → Nat → Int32) := sp_X6_number N Z5; let Z7 : Nat → Nat → Int32 := k158_6.2; let Z8 : Nat → Nat → Int32 := zu Z7 0 8 k158_6.1; if (Z8 0 8) = (-1 : Int32) then (((0 : Int32), Z8)) else (if (sp_X6_signAt N Z8 (Z8 0 5)) = (59 : Int32) then (let Z9 : Nat → Nat → Int32 := zu Z8 0 5 ((Z8 0 5) + (1 : Int32)); ((1 : Int32), Z9)) else (((0 : Int32), Z8)))) else (let Z5 : Nat → Nat → Int32 := zu Z4 0 5 ((Z4 0 5) + (1 : Int32)); let Z6 : Nat → Nat → Int32 := zu Z5 0 8 (-1 : Int32); if (Z6 0 8) = (-1 : Int32) then (((0 : Int32), Z6)) else (if (sp_X6_signAt N Z6 (Z6 0 5)) = (59 : Int32) then (let Z7 : Nat → Nat → Int32 := zu Z6 0 5 ((Z6 0 5) + (1 : Int32)); ((1 : Int32), Z7)) else (((0 : Int32), Z6))))))) else (let k94_5 : Int32 × (Nat → Nat → Int32) := sp_X6_number N Z4; let Z6 : Nat → Nat → Int32 := k94_5.2; let Z7 : Nat → Nat → Int32 := zu Z6 0 7 k94_5.1; if (Z7 0 6) = (119 : Int32) then (if (sp_X6_signAt N Z7 (Z7 0 5)) = (44 : Int32) then (let Z8 : Nat → Nat → Int32 := zu Z7 0 5 ((Z7 0 5) + (1 : Int32)); let k158_9 : Int32 × (Nat → Nat → Int32) := sp_X6_number N Z8; let Z10 : Nat → Nat → Int32 := k158_9.2; let Z11 : Nat → Nat → Int32 := zu Z10 0 8 k158_9.1; if (Z11 0 8) = (-1 : Int32) then (((0 : Int32), Z11)) else (if (sp_X6_signAt N Z11 (Z11 0 5)) = (59 : Int32) then (let Z12 : Nat → Nat → Int32 := zu Z11 0 5 ((Z11 0 5) + (1 : Int32)); ((1 : Int32), Z12)) else (((0 : Int32), Z11)))) else (let Z8 : Nat → Nat → Int32 := zu Z7 0 5 ((Z7 0 5) + (1 : Int32)); let Z9 : Nat → Nat → Int32 := zu Z8 0 8 (-1 : Int32); if (Z9 0 8) = (-1 : Int32) then (((0 : Int32), Z9)) else (if (sp_X6_signAt N Z9 (Z9 0 5)) = (59 : Int32) then (let Z10 : Nat → Nat → Int32 := zu Z9 0 5 ((Z9 0 5) + (1 : Int32)); ((1 : Int32), Z10)) else (((0 : Int32), Z9))))) else (if (Z7 0 7) = (-1 : Int32) then (((0 : Int32), Z7)) else (if (sp_X6_signAt N Z7 (Z7 0 5)) = (44 : Int32) then (let Z8 : Nat → Nat → Int32 := zu Z7 0 5 ((Z7 0 5) + (1 : Int32)); let k158_9 : Int32 × (Nat → Nat → Int32) := sp_X6_number N Z8; let Z10 : Nat → Nat → Int32 := k158_9.2; let Z11 : Nat → Nat → Int32 := zu Z10 0 8 k158_9.1; if (Z11 0 8) = (-1 : Int32) then (((0 : Int32), Z11)) else (if (sp_X6_signAt N Z11 (Z11 0 5)) = (59 : Int32) then (let Z12 : Nat → Nat → Int32 := zu Z11 0 5 ((Z11 0 5) + (1 : Int32)); ((1 : Int32), Z12)) else (((0 : Int32), Z11)))) else (let Z8 : Nat → Nat → Int32 := zu Z7 0 5 ((Z7 0 5) + (1 : Int32)); let Z9 : Nat → Nat → Int32 := zu Z8 0 8 (-1 : Int32); if (Z9 0 8) = (-1 : Int32) then (((0 : Int32), Z9)) else (if (sp_X6_signAt N Z9 (Z9 0 5)) = (59 : Int32) then (let Z10 : Nat → Nat → Int32 := zu Z9 0 5 ((Z9 0 5) + (1 : Int32)); ((1 : Int32), Z10)) else (((0 : Int32), Z9)))))))) else (if (Z4 0 6) = (120 : Int32) then (if (Z4 0 6) = (119 : Int32) then (if (Z4 0 6) = (119 : Int32) then (if (sp_X6_signAt N Z4 (Z4 0 5)) = (44 : Int32) then (let Z5 : Nat → Nat → Int32 := zu Z4 0 5 ((Z4 0 5) + (1 : Int32)); let k158_6 : Int32 × (Nat → Nat → Int32) := sp_X6_number N Z5; let Z7 : Nat → Nat → Int32 := k158_6.2; let Z8 : Nat → Nat → Int32 := zu Z7 0 8 k158_6.1; if (Z8 0 8) = (-1 : Int32) then (((0 : Int32), Z8)) else (if (sp_X6_signAt N Z8 (Z8 0 5)) = (59 : Int32) then (let Z9 : Nat → Nat → Int32 := zu Z8 0 5 ((Z8 0 5) + (1 : Int32)); ((1 : Int32), Z9)) else (((0 : Int32), Z8)))) else (let Z5 : Nat → Nat → Int32 := zu Z4 0 5 ((Z4 0 5) + (1 : Int32)); let Z6 : Nat → Nat → Int32 := zu Z5 0 8 (-1 : Int32); if (Z6 0 8) = (-1 : Int32) then (((0 : Int32), Z6)) else (if (sp_X6_signAt N Z6 (Z6 0 5)) = (59 : Int32) then (let Z7 : Nat → Nat → Int32 := zu Z6 0 5 ((Z6 0 5) + (1 : Int32)); ((1 : Int32), Z7)) else (((0 : Int32), Z6))))) else (if (Z4 0 7) = (-1 : Int32) then (((0 : Int32), Z4)) else (if (sp_X6_signAt N Z4 (Z4 0 5)) = (44 : Int32) then (let Z5 : Nat → Nat → Int32 := zu Z4 0 5 ((Z4 0 5) + (1 : Int32)); let k158_6 : Int32 × (Nat → Nat → Int32) := sp_X6_number N Z5; let Z7 : Nat → Nat → Int32 := k158_6.2; let Z8 : Nat → Nat → Int32 := zu Z7 0 8 k158_6.1; if (Z8 0 8) = (-1 : Int32) then (((0 : Int32), Z8)) else (if (sp_X6_signAt N Z8 (Z8 0 5)) = (59 : Int32) then (let Z9 : Nat → Nat → Int32 := zu Z8 0 5 ((Z8 0 5) + (1 : Int32)); ((1 : Int32), Z9)) else (((0 : Int32), Z8)))) else (let Z5 : Nat → Nat → Int32 := zu Z4 0 5 ((Z4 0 5) + (1 : Int32)); let Z6 : Nat → Nat → Int32 := zu Z5 0 8 (-1 : Int32); if (Z6 0 8) = (-1 : Int32) then (((0 : Int32), Z6)) else (if (sp_X6_signAt N Z6 (Z6 0 5)) = (59 : Int32) then (let Z7 : Nat → Nat → Int32 := zu Z6 0 5 ((Z6 0 5) + (1 : Int32)); ((1 : Int32), Z7)) else (((0 : Int32), Z6))))))) else (let k94_5 : Int32 × (Nat → Nat → Int32) := sp_X6_number N Z4; let Z6 : Nat → Nat → Int32 := k94_5.2; let Z7 : Nat → Nat → Int32 := zu Z6 0 7 k94_5.1; if (Z7 0 6) = (119 : Int32) then (if (sp_X6_signAt N Z7 (Z7 0 5)) = (44 : Int32) then (let Z8 : Nat → Nat → Int32 := zu Z7 0 5 ((Z7 0 5) + (1 : Int32)); let k158_9 : Int32 × (Nat → Nat → Int32) := sp_X6_number N Z8; let Z10 : Nat → Nat → Int32 := k158_9.2; let Z11 : Nat → Nat → Int32 := zu Z10 0 8 k158_9.1; if (Z11 0 8) = (-1 : Int32) then (((0 : Int32), Z11)) else (if (sp_X6_signAt N Z11 (Z11 0 5)) = (59 : Int32) then (let Z12 : Nat → Nat → Int32 := zu Z11 0 5 ((Z11 0 5) + (1 : Int32)); ((1 : Int32), Z12)) else (((0 : Int32), Z11)))) else (let Z8 : Nat → Nat → Int32 := zu Z7 0 5 ((Z7 0 5) + (1 : Int32)); let Z9 : Nat → Nat → Int32 := zu Z8 0 8 (-1 : Int32); if (Z9 0 8) = (-1 : Int32) then (((0 : Int32), Z9)) else (if (sp_X6_signAt N Z9 (Z9 0 5)) = (59 : Int32) then (let Z10 : Nat → Nat → Int32 := zu Z9 0 5 ((Z9 0 5) + (1 : Int32)); ((1 : Int32), Z10)) else (((0 : Int32), Z9))))) else (if (Z7 0 7) = (-1 : Int32) then (((0 : Int32), Z7)) else (if (sp_X6_signAt N Z7 (Z7 0 5)) = (44 : Int32) then (let Z8 : Nat → Nat → Int32 := zu Z7 0 5 ((Z7 0 5) + (1 : Int32)); let k158_9 : Int32 × (Nat → Nat → Int32) := sp_X6_number N Z8; let Z10 : Nat → Nat → Int32 := k158_9.2; let Z11 : Nat → Nat → Int32 := zu Z10 0 8 k158_9.1; if (Z11 0 8) = (-1 : Int32) then (((0 : Int32), Z11)) else (if (sp_X6_signAt N Z11 (Z11 0 5)) = (59 : Int32) then (let Z12 : Nat → Nat → Int32 := zu Z11 0 5 ((Z11 0 5) + (1 : Int32)); ((1 : Int32), Z12)) else (((0 : Int32), Z11)))) else (let Z8 : Nat → Nat → Int32 := zu Z7 0 5 ((Z7 0 5) + (1 : Int32)); let Z9 : Nat → Nat → Int32 := zu Z8 0 8 (-1 : Int32); if (Z9 0 8) = (-1 : Int32) then (((0 : Int32), Z9)) else (if (sp_X6_signAt N Z9 (Z9 0 5)) = (59 : Int32) then (let Z10 : Nat → Nat → Int32 := zu Z9 0 5 ((Z9 0 5) + (1 : Int32)); ((1 : Int32), Z10)) else (((0 : Int32), Z9)))))))) else (if (Z4 0 6) = (114 : Int32) then (if (Z4 0 6) = (119 : Int32) then (if (Z4 0 6) = (119 : Int32) then (if (sp_X6_signAt N Z4 (Z4 0 5)) = (59 : Int32) then (let Z5 : Nat → Nat → Int32 := zu Z4 0 5 ((Z4 0 5) + (1 : Int32)); ((1 : Int32), Z5)) else (((0 : Int32), Z4))) else (if (Z4 0 7) = (-1 : Int32) then (((0 : Int32), Z4)) else (if (sp_X6_signAt N Z4 (Z4 0 5)) = (59 : Int32) then (let Z5 : Nat → Nat → Int32 := zu Z4 0 5 ((Z4 0 5) + (1 : Int32)); ((1 : Int32), Z5)) else (((0 : Int32), Z4))))) else (let k94_5 : Int32 × (Nat → Nat → Int32) := sp_X6_number N Z4; let Z6 : Nat → Nat → Int32 := k94_5.2; let Z7 : Nat → Nat → Int32 := zu Z6 0 7 k94_5.1; if (Z7 0 6) = (119 : Int32) then (if (sp_X6_signAt N Z7 (Z7 0 5)) = (59 : Int32) then (let Z8 : Nat → Nat → Int32 := zu Z7 0 5 ((Z7 0 5) + (1 : Int32)); ((1 : Int32), Z8)) else (((0 : Int32), Z7))) else (if (Z7 0 7) = (-1 : Int32) then (((0 : Int32), Z7)) else (if (sp_X6_signAt N Z7 (Z7 0 5)) = (59 : Int32) then (let Z8 : Nat → Nat → Int32 := zu Z7 0 5 ((Z7 0 5) + (1 : Int32)); ((1 : Int32), Z8)) else (((0 : Int32), Z7)))))) else (if (Z4 0 6) = (119 : Int32) then (if (Z4 0 6) = (119 : Int32) then (if (Z4 0 6) = (119 : Int32) then (if (sp_X6_signAt N Z4 (Z4 0 5)) = (59 : Int32) then (let Z5 : Nat → Nat → Int32 := zu Z4 0 5 ((Z4 0 5) + (1 : Int32)); ((1 : Int32), Z5)) else (((0 : Int32), Z4))) else (if (Z4 0 7) = (-1 : Int32) then (((0 : Int32), Z4)) else (if (sp_X6_signAt N Z4 (Z4 0 5)) = (59 : Int32) then (let Z5 : Nat → Nat → Int32 := zu Z4 0 5 ((Z4 0 5) + (1 : Int32)); ((1 : Int32), Z5)) else (((0 : Int32), Z4))))) else (let k94_5 : Int32 × (Nat → Nat → Int32) := sp_X6_number N Z4; let Z6 : Nat → Nat → Int32 := k94_5.2; let Z7 : Nat → Nat → Int32 := zu Z6 0 7 k94_5.1; if (Z7 0 6) = (119 : Int32) then (if (sp_X6_signAt N Z7 (Z7 0 5)) = (59 : Int32) then (let Z8 : Nat → Nat → Int32 := zu Z7 0 5 ((Z7 0 5) + (1 : Int32)); ((1 : Int32), Z8)) else (((0 : Int32), Z7))) else (if (Z7 0 7) = (-1 : Int32) then (((0 : Int32), Z7)) else (if (sp_X6_signAt N Z7 (Z7 0 5)) = (59 : Int32) then (let Z8 : Nat → Nat → Int32 := zu Z7 0 5 ((Z7 0 5) + (1 : Int32)); ((1 : Int32), Z8)) else (((0 : Int32), Z7)))))) else (((0 : Int32), Z4))))))
set_option maxHeartbeats 4000000 in
set_option maxRecDepth 100000 in
theorem c_X6_reads (l : Launch) (D : va_G) (cI cC cW : ClassId) (t : Nat → Nat) (a : Nat → Nat) (sz : Nat) (N : Nat → Int32) (Z : Nat → Nat → Int32) (x1 : Int32) (h0 : 0 ≤ x1.toInt) (h60 : x1.toInt ≤ 60) (hty : tyZ Z) : Met l yX6_reads wsX6_reads ({ frames := 2, cells := 0, slots := 0, locals := 44 }) (va_Pc [.ref (a 0), .int x1] (rwP D (tyL cI cC cW) (md cI a N Z) t sz)) (va_Qi (fun (r : Int32) (u : Nat → Nat → Int32) => (r, u) = sp_X6_reads N Z x1) (fun u => rwB D (va_A (md cI a N Z) sz) (md cI a N u)) (va_A (md cI a N Z) sz)) 0 0 (va_A (md cI a N Z) sz) := by
  refine Met.ofW (cc := cX6_reads) (maxL := 4) (ret := (some .boolean)) (by decide) rfl ?_
  intro p e s m args below meth c s₁ B hml hv
  obtain ⟨rfl, hsz, hP, hK, hD0, hX⟩ := hv
  have hx := B.exec
  have hb := B.bytes
  have hr := B.returns
  have hts := atoms_spec (ws := wsX6_reads) B.pre
  have hown : s.vm.findClass RX6 = some m.cls := findClass_of_methodNamed B.named
  have hlocks := B.notSynchronized
  subst hsz
  have hD := hD0.self (sz := s.heap.size)
  generalize hAe : va_A (md cI a N Z) s.heap.size = A at hD hX ⊢
  have hA : ∀ q : Nat, s.heap.size ≤ q → A q := fun q h => by rw [← hAe]; exact Or.inr h
  have hS : va_S A s.heap s.heap [] := va_S.rf
  have wd1 : (Cond.fieldLink RX6 165 "PickSlotsModel" "letter" "I").before [.ref (a 0), .int x1].toArray s = true := hts _ (List.mem_of_getElem? (i := 1) rfl)
  have wd2 : (Cond.fieldLink RX6 159 "PickSlotsModel" "at" "I").before [.ref (a 0), .int x1].toArray s = true := hts _ (List.mem_of_getElem? (i := 2) rfl)
  have wd3 : (Cond.fieldLink RX6 168 "PickSlotsModel" "first" "I").before [.ref (a 0), .int x1].toArray s = true := hts _ (List.mem_of_getElem? (i := 3) rfl)
  have wd4 : (Cond.fieldLink RX6 171 "PickSlotsModel" "second" "I").before [.ref (a 0), .int x1].toArray s = true := hts _ (List.mem_of_getElem? (i := 4) rfl)
  have hi6 : ∀ w ∈ wsX60, w ∈ wsX6_reads := fun w h => List.mem_cons_of_mem _ (List.mem_append_right _ (h))
  have CF : CallFix p m c cX6_reads 4 s [.ref (a 0), .int x1].toArray wsX6_reads RX6 := ⟨hx, hb, hml, hown, hts⟩
  have hl := lv_entry ([.ref (a 0), .int x1]) (n := 4) (Nat.le_of_ble_eq_true rfl)
  rw [lg_entry_eq]
  generalize (lg_sl ([.ref (a 0), .int x1]) ++ List.replicate (4 - (lg_sl ([.ref (a 0), .int x1])).length) Slot.unset).toArray = ls at hl ⊢
  have hl : lv_has ls 4 [(0, .ref (a 0)), (1, .int x1)] := hl
  refine lv_aload_n hx hb dX6_reads_0 rfl (lv_at hl 0 rfl) ?_
  refine lv_aload_n hx hb dX6_reads_1 rfl (lv_at hl 0 rfl) ?_
  refine lv_iload_n hx hb dX6_reads_2 rfl (lv_at hl 1 rfl) ?_
  refine roV CF (c_X6_signAt l D cI cC cW t _ _ _ _ (h0) (hty)) (cwV 1 hts gX6_reads_X6_signAt rfl rfl rfl (by decide +kernel) ⟨Nat.le_of_ble_eq_true rfl, Nat.le_of_ble_eq_true rfl⟩) hP hK hX hS 0 5 md_0 rfl rfl hl.1 rfl (Nat.le_of_ble_eq_true rfl) dX6_reads_3 ⟨Nat.zero_le _, Nat.zero_le _⟩ ?_
  refine my_put (D := D) (ci := 5) (C := RX6) (T := TX6) (N := 17) (ty := .int) hx hb hts hi6 tyX6 tyX6_ok nmX6 hown hK hP hD hS 0 md_0 rfl 12 (by decide) wd1 (fun _ h9 => h9) rfl (by decide +kernel) rfl rfl (Nat.le_of_ble_eq_true rfl) (md_f12 _) dX6_reads_6 (fun H locs hP hD hS => ?_)
  refine lv_aload_n hx hb dX6_reads_9 rfl (lv_at hl 0 rfl) ?_
  refine lv_iload_n hx hb dX6_reads_10 rfl (lv_at hl 1 rfl) ?_
  refine lv_iconst (v := 1) hx hb dX6_reads_11 (by decide) ?_
  refine lv_iadd hx hb dX6_reads_12 ?_
  refine my_put (D := D) (ci := 5) (C := RX6) (T := TX6) (N := 17) (ty := .int) hx hb hts hi6 tyX6 tyX6_ok nmX6 hown hK hP hD hS 0 md_0 rfl 11 (by decide) wd2 (fun _ h9 => h9) rfl (by decide +kernel) rfl rfl (Nat.le_of_ble_eq_true rfl) (md_f11 _) dX6_reads_13 (fun H locs hP hD hS => ?_)
  refine lv_aload_n hx hb dX6_reads_16 rfl (lv_at hl 0 rfl) ?_
  refine lv_iconst (v := -1) hx hb dX6_reads_17 (by decide) ?_
  refine my_put (D := D) (ci := 5) (C := RX6) (T := TX6) (N := 17) (ty := .int) hx hb hts hi6 tyX6 tyX6_ok nmX6 hown hK hP hD hS 0 md_0 rfl 13 (by decide) wd3 (fun _ h9 => h9) rfl (by decide +kernel) rfl rfl (Nat.le_of_ble_eq_true rfl) (md_f13 _) dX6_reads_18 (fun H locs hP hD hS => ?_)
  refine lv_aload_n hx hb dX6_reads_21 rfl (lv_at hl 0 rfl) ?_
  refine lv_iconst (v := -1) hx hb dX6_reads_22 (by decide) ?_
  refine my_put (D := D) (ci := 5) (C := RX6) (T := TX6) (N := 17) (ty := .int) hx hb hts hi6 tyX6 tyX6_ok nmX6 hown hK hP hD hS 0 md_0 rfl 14 (by decide) wd4 (fun _ h9 => h9) rfl (by decide +kernel) rfl rfl (Nat.le_of_ble_eq_true rfl) (md_f14 _) dX6_reads_23 (fun H locs hP hD hS => ?_)
  refine lv_aload_n hx hb dX6_reads_26 rfl (lv_at hl 0 rfl) ?_
  refine va_get (D := D) (ci := 5) (C := RX6) (T := TX6) (N := 17) hx hb hts hi6 hown hK hP 0 md_0 rfl 12 (by decide) wd1 (fun _ h9 => h9) rfl dX6_reads_27 ?_
  refine lv_bipush (v := 112) hx hb dX6_reads_30 (by decide) ?_
  refine lv_icmp_eq (tgt := 53) hx hb dX6_reads_32 (by decide) (fun c32 => ?_) (fun c32 => ?_)
  · refine lv_iconst (v := 1) hx hb dX6_reads_53 (by decide) ?_
    refine lv_goto (tgt := 58) hx hb dX6_reads_54 (by decide) ?_
    refine lv_istore_n (lv' := [(2, .int _), (0, .ref _), (1, .int _)]) hx hb dX6_reads_58 rfl hl (by decide) rfl (fun ls hl => ?_)
    refine lv_iload_n hx hb dX6_reads_59 rfl (lv_at hl 0 rfl) ?_
    refine lv_if_ne (tgt := 83) hx hb dX6_reads_60 (by decide) (fun _ => ?_) (fun c9 => absurd c9 (by decide))
    refine lv_aload_n hx hb dX6_reads_83 rfl (lv_at hl 1 rfl) ?_
    refine va_get (D := D) (ci := 5) (C := RX6) (T := TX6) (N := 17) hx hb hts hi6 hown hK hP 0 md_0 rfl 12 (by decide) wd1 (fun _ h9 => h9) rfl dX6_reads_84 ?_
    refine lv_bipush (v := 119) hx hb dX6_reads_87 (by decide) ?_
    refine lv_icmp_eq (tgt := 100) hx hb dX6_reads_89 (by decide) (fun c89 => ?_) (fun c89 => ?_)
    · refine lv_aload_n hx hb dX6_reads_100 rfl (lv_at hl 1 rfl) ?_
      refine va_get (D := D) (ci := 5) (C := RX6) (T := TX6) (N := 17) hx hb hts hi6 hown hK hP 0 md_0 rfl 12 (by decide) wd1 (fun _ h9 => h9) rfl dX6_reads_101 ?_
      refine lv_bipush (v := 119) hx hb dX6_reads_104 (by decide) ?_
      refine lv_icmp_eq (tgt := 119) hx hb dX6_reads_106 (by decide) (fun c106 => ?_) (fun c106 => ?_)
      · refine lv_iload_n hx hb dX6_reads_119 rfl (lv_at hl 0 rfl) ?_
        refine lv_if_eq (tgt := 168) hx hb dX6_reads_120 (by decide) (fun c9 => absurd c9 (by decide)) (fun _ => ?_)
        refine lv_aload_n hx hb dX6_reads_123 rfl (lv_at hl 1 rfl) ?_
        refine lv_aload_n hx hb dX6_reads_124 rfl (lv_at hl 1 rfl) ?_
        refine va_get (D := D) (ci := 5) (C := RX6) (T := TX6) (N := 17) hx hb hts hi6 hown hK hP 0 md_0 rfl 11 (by decide) wd2 (fun _ h9 => h9) rfl dX6_reads_125 ?_
        refine roV CF (c_X6_signAt l D cI cC cW t _ _ _ _ (by first | (with_reducible (refine okT.lo (b := 61) ?_; (repeat (first | exact okT_s6 hty h0 h60 | refine okT_z7 ?_ | refine okT_z8 ?_ | refine okT_n61 ?_)); done)) | (with_reducible (refine okT.lo (b := 62) ?_; (repeat (first | refine okT_z7 ?_ | refine okT_z8 ?_ | refine okT_n62 ?_)); refine okT_i62 ?_; (repeat (first | exact okT_s6 hty h0 h60 | refine okT_z7 ?_ | refine okT_z8 ?_ | refine okT_n61 ?_)); done))) (by first | (with_reducible (refine okT.ty (b := 61) ?_; (repeat (first | exact okT_s6 hty h0 h60 | refine okT_z7 ?_ | refine okT_z8 ?_ | refine okT_n61 ?_)); done)) | (with_reducible (refine okT.ty (b := 62) ?_; (repeat (first | refine okT_z7 ?_ | refine okT_z8 ?_ | refine okT_n62 ?_)); refine okT_i62 ?_; (repeat (first | exact okT_s6 hty h0 h60 | refine okT_z7 ?_ | refine okT_z8 ?_ | refine okT_n61 ?_)); done)))) (cwV 1 hts gX6_reads_X6_signAt rfl rfl rfl (by decide +kernel) ⟨Nat.le_of_ble_eq_true rfl, Nat.le_of_ble_eq_true rfl⟩) hP hK hX hS 0 5 md_0 rfl rfl hl.1 rfl (Nat.le_of_ble_eq_true rfl) dX6_reads_128 ⟨Nat.zero_le _, Nat.zero_le _⟩ ?_
        refine lv_bipush (v := 44) hx hb dX6_reads_131 (by decide) ?_
        refine lv_icmp_ne (tgt := 140) hx hb dX6_reads_133 (by decide) (fun c133 => ?_) (fun c133 => ?_)
        · refine lv_iconst (v := 0) hx hb dX6_reads_140 (by decide) ?_
          refine lv_istore_n (lv' := [(3, .int _), (2, .int _), (0, .ref _), (1, .int _)]) hx hb dX6_reads_141 rfl hl (by decide) rfl (fun ls hl => ?_)
          refine lv_aload_n hx hb dX6_reads_142 rfl (lv_at hl 2 rfl) ?_
          refine lv_dup hx hb dX6_reads_143 rfl ?_
          refine va_get (D := D) (ci := 5) (C := RX6) (T := TX6) (N := 17) hx hb hts hi6 hown hK hP 0 md_0 rfl 11 (by decide) wd2 (fun _ h9 => h9) rfl dX6_reads_144 ?_
          refine lv_iconst (v := 1) hx hb dX6_reads_147 (by decide) ?_
          refine lv_iadd hx hb dX6_reads_148 ?_
          refine my_put (D := D) (ci := 5) (C := RX6) (T := TX6) (N := 17) (ty := .int) hx hb hts hi6 tyX6 tyX6_ok nmX6 hown hK hP hD hS 0 md_0 rfl 11 (by decide) wd2 (fun _ h9 => h9) rfl (by decide +kernel) rfl rfl (Nat.le_of_ble_eq_true rfl) (md_f11 _) dX6_reads_149 (fun H locs hP hD hS => ?_)
          refine lv_aload_n hx hb dX6_reads_152 rfl (lv_at hl 2 rfl) ?_
          refine lv_iload_n hx hb dX6_reads_153 rfl (lv_at hl 0 rfl) ?_
          refine lv_if_eq (tgt := 164) hx hb dX6_reads_154 (by decide) (fun _ => ?_) (fun c9 => absurd (by decide) c9)
          refine lv_iconst (v := -1) hx hb dX6_reads_164 (by decide) ?_
          refine my_put (D := D) (ci := 5) (C := RX6) (T := TX6) (N := 17) (ty := .int) hx hb hts hi6 tyX6 tyX6_ok nmX6 hown hK hP hD hS 0 md_0 rfl 14 (by decide) wd4 (fun _ h9 => h9) rfl (by decide +kernel) rfl rfl (Nat.le_of_ble_eq_true rfl) (md_f14 _) dX6_reads_165 (fun H locs hP hD hS => ?_)
          refine lv_iload_n hx hb dX6_reads_168 rfl (lv_at hl 1 rfl) ?_
          refine lv_if_eq (tgt := 180) hx hb dX6_reads_169 (by decide) (fun c9 => absurd c9 (by decide)) (fun _ => ?_)
          refine lv_aload_n hx hb dX6_reads_172 rfl (lv_at hl 2 rfl) ?_
          refine va_get (D := D) (ci := 5) (C := RX6) (T := TX6) (N := 17) hx hb hts hi6 hown hK hP 0 md_0 rfl 14 (by decide) wd4 (fun _ h9 => h9) rfl dX6_reads_173 ?_
          refine lv_iconst (v := -1) hx hb dX6_reads_176 (by decide) ?_
          refine lv_icmp_eq (tgt := 193) hx hb dX6_reads_177 (by decide) (fun c177 => ?_) (fun c177 => ?_)
          · refine lv_iconst (v := 0) hx hb dX6_reads_193 (by decide) ?_
            exact rw_zret _ hx hb hr (rfl) hP hD hS (Eq.trans (if_pos c32) (Eq.trans (if_pos c89) (Eq.trans (if_pos c106) (Eq.trans (if_neg c133) (Eq.trans (if_pos c177) (rfl)))))) dX6_reads_194 hlocks
          · refine lv_aload_n hx hb dX6_reads_180 rfl (lv_at hl 2 rfl) ?_
            refine lv_aload_n hx hb dX6_reads_181 rfl (lv_at hl 2 rfl) ?_
            refine va_get (D := D) (ci := 5) (C := RX6) (T := TX6) (N := 17) hx hb hts hi6 hown hK hP 0 md_0 rfl 11 (by decide) wd2 (fun _ h9 => h9) rfl dX6_reads_182 ?_
            refine roV CF (c_X6_signAt l D cI cC cW t _ _ _ _ (by first | (with_reducible (refine okT.lo (b := 61) ?_; (repeat (first | exact okT_s6 hty h0 h60 | refine okT_z7 ?_ | refine okT_z8 ?_ | refine okT_n61 ?_)); done)) | (with_reducible (refine okT.lo (b := 62) ?_; (repeat (first | refine okT_z7 ?_ | refine okT_z8 ?_ | refine okT_n62 ?_)); refine okT_i62 ?_; (repeat (first | exact okT_s6 hty h0 h60 | refine okT_z7 ?_ | refine okT_z8 ?_ | refine okT_n61 ?_)); done))) (by first | (with_reducible (refine okT.ty (b := 61) ?_; (repeat (first | exact okT_s6 hty h0 h60 | refine okT_z7 ?_ | refine okT_z8 ?_ | refine okT_n61 ?_)); done)) | (with_reducible (refine okT.ty (b := 62) ?_; (repeat (first | refine okT_z7 ?_ | refine okT_z8 ?_ | refine okT_n62 ?_)); refine okT_i62 ?_; (repeat (first | exact okT_s6 hty h0 h60 | refine okT_z7 ?_ | refine okT_z8 ?_ | refine okT_n61 ?_)); done)))) (cwV 1 hts gX6_reads_X6_signAt rfl rfl rfl (by decide +kernel) ⟨Nat.le_of_ble_eq_true rfl, Nat.le_of_ble_eq_true rfl⟩) hP hK hX hS 0 5 md_0 rfl rfl hl.1 rfl (Nat.le_of_ble_eq_true rfl) dX6_reads_185 ⟨Nat.zero_le _, Nat.zero_le _⟩ ?_
            refine lv_bipush (v := 59) hx hb dX6_reads_188 (by decide) ?_
            refine lv_icmp_eq (tgt := 195) hx hb dX6_reads_190 (by decide) (fun c190 => ?_) (fun c190 => ?_)
            · refine lv_aload_n hx hb dX6_reads_195 rfl (lv_at hl 2 rfl) ?_
              refine lv_dup hx hb dX6_reads_196 rfl ?_
              refine va_get (D := D) (ci := 5) (C := RX6) (T := TX6) (N := 17) hx hb hts hi6 hown hK hP 0 md_0 rfl 11 (by decide) wd2 (fun _ h9 => h9) rfl dX6_reads_197 ?_
              refine lv_iconst (v := 1) hx hb dX6_reads_200 (by decide) ?_
              refine lv_iadd hx hb dX6_reads_201 ?_
              refine my_put (D := D) (ci := 5) (C := RX6) (T := TX6) (N := 17) (ty := .int) hx hb hts hi6 tyX6 tyX6_ok nmX6 hown hK hP hD hS 0 md_0 rfl 11 (by decide) wd2 (fun _ h9 => h9) rfl (by decide +kernel) rfl rfl (Nat.le_of_ble_eq_true rfl) (md_f11 _) dX6_reads_202 (fun H locs hP hD hS => ?_)
              refine lv_iconst (v := 1) hx hb dX6_reads_205 (by decide) ?_
              exact rw_zret _ hx hb hr (rfl) hP hD hS (Eq.trans (if_pos c32) (Eq.trans (if_pos c89) (Eq.trans (if_pos c106) (Eq.trans (if_neg c133) (Eq.trans (if_neg c177) (Eq.trans (if_pos c190) (rfl))))))) dX6_reads_206 hlocks
            · refine lv_iconst (v := 0) hx hb dX6_reads_193 (by decide) ?_
              exact rw_zret _ hx hb hr (rfl) hP hD hS (Eq.trans (if_pos c32) (Eq.trans (if_pos c89) (Eq.trans (if_pos c106) (Eq.trans (if_neg c133) (Eq.trans (if_neg c177) (Eq.trans (if_neg c190) (rfl))))))) dX6_reads_194 hlocks
        · refine lv_iconst (v := 1) hx hb dX6_reads_136 (by decide) ?_
          refine lv_goto (tgt := 141) hx hb dX6_reads_137 (by decide) ?_
          refine lv_istore_n (lv' := [(3, .int _), (2, .int _), (0, .ref _), (1, .int _)]) hx hb dX6_reads_141 rfl hl (by decide) rfl (fun ls hl => ?_)
          refine lv_aload_n hx hb dX6_reads_142 rfl (lv_at hl 2 rfl) ?_
          refine lv_dup hx hb dX6_reads_143 rfl ?_
          refine va_get (D := D) (ci := 5) (C := RX6) (T := TX6) (N := 17) hx hb hts hi6 hown hK hP 0 md_0 rfl 11 (by decide) wd2 (fun _ h9 => h9) rfl dX6_reads_144 ?_
          refine lv_iconst (v := 1) hx hb dX6_reads_147 (by decide) ?_
          refine lv_iadd hx hb dX6_reads_148 ?_
          refine my_put (D := D) (ci := 5) (C := RX6) (T := TX6) (N := 17) (ty := .int) hx hb hts hi6 tyX6 tyX6_ok nmX6 hown hK hP hD hS 0 md_0 rfl 11 (by decide) wd2 (fun _ h9 => h9) rfl (by decide +kernel) rfl rfl (Nat.le_of_ble_eq_true rfl) (md_f11 _) dX6_reads_149 (fun H locs hP hD hS => ?_)
          refine lv_aload_n hx hb dX6_reads_152 rfl (lv_at hl 2 rfl) ?_
          refine lv_iload_n hx hb dX6_reads_153 rfl (lv_at hl 0 rfl) ?_
          refine lv_if_eq (tgt := 164) hx hb dX6_reads_154 (by decide) (fun c9 => absurd c9 (by decide)) (fun _ => ?_)
          refine lv_aload_n hx hb dX6_reads_157 rfl (lv_at hl 2 rfl) ?_
          refine rwV CF (c_X6_number l D cI cC cW t _ _ _ _  (by first | (with_reducible (refine okT.lo (b := 61) ?_; (repeat (first | exact okT_s6 hty h0 h60 | refine okT_z7 ?_ | refine okT_z8 ?_ | refine okT_n61 ?_)); done)) | (with_reducible (refine okT.lo (b := 62) ?_; (repeat (first | refine okT_z7 ?_ | refine okT_z8 ?_ | refine okT_n62 ?_)); refine okT_i62 ?_; (repeat (first | exact okT_s6 hty h0 h60 | refine okT_z7 ?_ | refine okT_z8 ?_ | refine okT_n61 ?_)); done))) (by first | (with_reducible (refine okT.ty (b := 61) ?_; (repeat (first | exact okT_s6 hty h0 h60 | refine okT_z7 ?_ | refine okT_z8 ?_ | refine okT_n61 ?_)); done)) | (with_reducible (refine okT.ty (b := 62) ?_; (repeat (first | refine okT_z7 ?_ | refine okT_z8 ?_ | refine okT_n62 ?_)); refine okT_i62 ?_; (repeat (first | exact okT_s6 hty h0 h60 | refine okT_z7 ?_ | refine okT_z8 ?_ | refine okT_n61 ?_)); done)))) (cwV 0 hts gX6_reads_X6_number rfl rfl rfl (by decide +kernel) ⟨Nat.le_of_ble_eq_true rfl, Nat.le_of_ble_eq_true rfl⟩) hP hD hK hX hS hA 0 5 md_0 rfl rfl hl.1 rfl (Nat.le_of_ble_eq_true rfl) dX6_reads_158 ⟨Nat.zero_le _, Nat.zero_le _⟩ (fun H locs hP hD hS => ?_)
          refine lv_goto (tgt := 165) hx hb dX6_reads_161 (by decide) ?_
          refine my_put (D := D) (ci := 5) (C := RX6) (T := TX6) (N := 17) (ty := .int) hx hb hts hi6 tyX6 tyX6_ok nmX6 hown hK hP hD hS 0 md_0 rfl 14 (by decide) wd4 (fun _ h9 => h9) rfl (by decide +kernel) rfl rfl (Nat.le_of_ble_eq_true rfl) (md_f14 _) dX6_reads_165 (fun H locs hP hD hS => ?_)
          refine lv_iload_n hx hb dX6_reads_168 rfl (lv_at hl 1 rfl) ?_
          refine lv_if_eq (tgt := 180) hx hb dX6_reads_169 (by decide) (fun c9 => absurd c9 (by decide)) (fun _ => ?_)
          refine lv_aload_n hx hb dX6_reads_172 rfl (lv_at hl 2 rfl) ?_
          refine va_get (D := D) (ci := 5) (C := RX6) (T := TX6) (N := 17) hx hb hts hi6 hown hK hP 0 md_0 rfl 14 (by decide) wd4 (fun _ h9 => h9) rfl dX6_reads_173 ?_
          refine lv_iconst (v := -1) hx hb dX6_reads_176 (by decide) ?_
          refine lv_icmp_eq (tgt := 193) hx hb dX6_reads_177 (by decide) (fun c177 => ?_) (fun c177 => ?_)
          · refine lv_iconst (v := 0) hx hb dX6_reads_193 (by decide) ?_
            exact rw_zret _ hx hb hr (rfl) hP hD hS (Eq.trans (if_pos c32) (Eq.trans (if_pos c89) (Eq.trans (if_pos c106) (Eq.trans (if_pos c133) (Eq.trans (if_pos c177) (rfl)))))) dX6_reads_194 hlocks
          · refine lv_aload_n hx hb dX6_reads_180 rfl (lv_at hl 2 rfl) ?_
            refine lv_aload_n hx hb dX6_reads_181 rfl (lv_at hl 2 rfl) ?_
            refine va_get (D := D) (ci := 5) (C := RX6) (T := TX6) (N := 17) hx hb hts hi6 hown hK hP 0 md_0 rfl 11 (by decide) wd2 (fun _ h9 => h9) rfl dX6_reads_182 ?_
            refine roV CF (c_X6_signAt l D cI cC cW t _ _ _ _ (by first | (with_reducible (refine okT.lo (b := 61) ?_; (repeat (first | exact okT_s6 hty h0 h60 | refine okT_z7 ?_ | refine okT_z8 ?_ | refine okT_n61 ?_)); done)) | (with_reducible (refine okT.lo (b := 62) ?_; (repeat (first | refine okT_z7 ?_ | refine okT_z8 ?_ | refine okT_n62 ?_)); refine okT_i62 ?_; (repeat (first | exact okT_s6 hty h0 h60 | refine okT_z7 ?_ | refine okT_z8 ?_ | refine okT_n61 ?_)); done))) (by first | (with_reducible (refine okT.ty (b := 61) ?_; (repeat (first | exact okT_s6 hty h0 h60 | refine okT_z7 ?_ | refine okT_z8 ?_ | refine okT_n61 ?_)); done)) | (with_reducible (refine okT.ty (b := 62) ?_; (repeat (first | refine okT_z7 ?_ | refine okT_z8 ?_ | refine okT_n62 ?_)); refine okT_i62 ?_; (repeat (first | exact okT_s6 hty h0 h60 | refine okT_z7 ?_ | refine okT_z8 ?_ | refine okT_n61 ?_)); done)))) (cwV 1 hts gX6_reads_X6_signAt rfl rfl rfl (by decide +kernel) ⟨Nat.le_of_ble_eq_true rfl, Nat.le_of_ble_eq_true rfl⟩) hP hK hX hS 0 5 md_0 rfl rfl hl.1 rfl (Nat.le_of_ble_eq_true rfl) dX6_reads_185 ⟨Nat.zero_le _, Nat.zero_le _⟩ ?_
            refine lv_bipush (v := 59) hx hb dX6_reads_188 (by decide) ?_
            refine lv_icmp_eq (tgt := 195) hx hb dX6_reads_190 (by decide) (fun c190 => ?_) (fun c190 => ?_)
            · refine lv_aload_n hx hb dX6_reads_195 rfl (lv_at hl 2 rfl) ?_
              refine lv_dup hx hb dX6_reads_196 rfl ?_
              refine va_get (D := D) (ci := 5) (C := RX6) (T := TX6) (N := 17) hx hb hts hi6 hown hK hP 0 md_0 rfl 11 (by decide) wd2 (fun _ h9 => h9) rfl dX6_reads_197 ?_
              refine lv_iconst (v := 1) hx hb dX6_reads_200 (by decide) ?_
              refine lv_iadd hx hb dX6_reads_201 ?_
              refine my_put (D := D) (ci := 5) (C := RX6) (T := TX6) (N := 17) (ty := .int) hx hb hts hi6 tyX6 tyX6_ok nmX6 hown hK hP hD hS 0 md_0 rfl 11 (by decide) wd2 (fun _ h9 => h9) rfl (by decide +kernel) rfl rfl (Nat.le_of_ble_eq_true rfl) (md_f11 _) dX6_reads_202 (fun H locs hP hD hS => ?_)
              refine lv_iconst (v := 1) hx hb dX6_reads_205 (by decide) ?_
              exact rw_zret _ hx hb hr (rfl) hP hD hS (Eq.trans (if_pos c32) (Eq.trans (if_pos c89) (Eq.trans (if_pos c106) (Eq.trans (if_pos c133) (Eq.trans (if_neg c177) (Eq.trans (if_pos c190) (rfl))))))) dX6_reads_206 hlocks
            · refine lv_iconst (v := 0) hx hb dX6_reads_193 (by decide) ?_
              exact rw_zret _ hx hb hr (rfl) hP hD hS (Eq.trans (if_pos c32) (Eq.trans (if_pos c89) (Eq.trans (if_pos c106) (Eq.trans (if_pos c133) (Eq.trans (if_neg c177) (Eq.trans (if_neg c190) (rfl))))))) dX6_reads_194 hlocks
      · refine lv_aload_n hx hb dX6_reads_109 rfl (lv_at hl 1 rfl) ?_
        refine va_get (D := D) (ci := 5) (C := RX6) (T := TX6) (N := 17) hx hb hts hi6 hown hK hP 0 md_0 rfl 13 (by decide) wd3 (fun _ h9 => h9) rfl dX6_reads_110 ?_
        refine lv_iconst (v := -1) hx hb dX6_reads_113 (by decide) ?_
        refine lv_icmp_ne (tgt := 119) hx hb dX6_reads_114 (by decide) (fun c114 => ?_) (fun c114 => ?_)
        · refine lv_iload_n hx hb dX6_reads_119 rfl (lv_at hl 0 rfl) ?_
          refine lv_if_eq (tgt := 168) hx hb dX6_reads_120 (by decide) (fun c9 => absurd c9 (by decide)) (fun _ => ?_)
          refine lv_aload_n hx hb dX6_reads_123 rfl (lv_at hl 1 rfl) ?_
          refine lv_aload_n hx hb dX6_reads_124 rfl (lv_at hl 1 rfl) ?_
          refine va_get (D := D) (ci := 5) (C := RX6) (T := TX6) (N := 17) hx hb hts hi6 hown hK hP 0 md_0 rfl 11 (by decide) wd2 (fun _ h9 => h9) rfl dX6_reads_125 ?_
          refine roV CF (c_X6_signAt l D cI cC cW t _ _ _ _ (by first | (with_reducible (refine okT.lo (b := 61) ?_; (repeat (first | exact okT_s6 hty h0 h60 | refine okT_z7 ?_ | refine okT_z8 ?_ | refine okT_n61 ?_)); done)) | (with_reducible (refine okT.lo (b := 62) ?_; (repeat (first | refine okT_z7 ?_ | refine okT_z8 ?_ | refine okT_n62 ?_)); refine okT_i62 ?_; (repeat (first | exact okT_s6 hty h0 h60 | refine okT_z7 ?_ | refine okT_z8 ?_ | refine okT_n61 ?_)); done))) (by first | (with_reducible (refine okT.ty (b := 61) ?_; (repeat (first | exact okT_s6 hty h0 h60 | refine okT_z7 ?_ | refine okT_z8 ?_ | refine okT_n61 ?_)); done)) | (with_reducible (refine okT.ty (b := 62) ?_; (repeat (first | refine okT_z7 ?_ | refine okT_z8 ?_ | refine okT_n62 ?_)); refine okT_i62 ?_; (repeat (first | exact okT_s6 hty h0 h60 | refine okT_z7 ?_ | refine okT_z8 ?_ | refine okT_n61 ?_)); done)))) (cwV 1 hts gX6_reads_X6_signAt rfl rfl rfl (by decide +kernel) ⟨Nat.le_of_ble_eq_true rfl, Nat.le_of_ble_eq_true rfl⟩) hP hK hX hS 0 5 md_0 rfl rfl hl.1 rfl (Nat.le_of_ble_eq_true rfl) dX6_reads_128 ⟨Nat.zero_le _, Nat.zero_le _⟩ ?_
          refine lv_bipush (v := 44) hx hb dX6_reads_131 (by decide) ?_
          refine lv_icmp_ne (tgt := 140) hx hb dX6_reads_133 (by decide) (fun c133 => ?_) (fun c133 => ?_)
          · refine lv_iconst (v := 0) hx hb dX6_reads_140 (by decide) ?_
            refine lv_istore_n (lv' := [(3, .int _), (2, .int _), (0, .ref _), (1, .int _)]) hx hb dX6_reads_141 rfl hl (by decide) rfl (fun ls hl => ?_)
            refine lv_aload_n hx hb dX6_reads_142 rfl (lv_at hl 2 rfl) ?_
            refine lv_dup hx hb dX6_reads_143 rfl ?_
            refine va_get (D := D) (ci := 5) (C := RX6) (T := TX6) (N := 17) hx hb hts hi6 hown hK hP 0 md_0 rfl 11 (by decide) wd2 (fun _ h9 => h9) rfl dX6_reads_144 ?_
            refine lv_iconst (v := 1) hx hb dX6_reads_147 (by decide) ?_
            refine lv_iadd hx hb dX6_reads_148 ?_
            refine my_put (D := D) (ci := 5) (C := RX6) (T := TX6) (N := 17) (ty := .int) hx hb hts hi6 tyX6 tyX6_ok nmX6 hown hK hP hD hS 0 md_0 rfl 11 (by decide) wd2 (fun _ h9 => h9) rfl (by decide +kernel) rfl rfl (Nat.le_of_ble_eq_true rfl) (md_f11 _) dX6_reads_149 (fun H locs hP hD hS => ?_)
            refine lv_aload_n hx hb dX6_reads_152 rfl (lv_at hl 2 rfl) ?_
            refine lv_iload_n hx hb dX6_reads_153 rfl (lv_at hl 0 rfl) ?_
            refine lv_if_eq (tgt := 164) hx hb dX6_reads_154 (by decide) (fun _ => ?_) (fun c9 => absurd (by decide) c9)
            refine lv_iconst (v := -1) hx hb dX6_reads_164 (by decide) ?_
            refine my_put (D := D) (ci := 5) (C := RX6) (T := TX6) (N := 17) (ty := .int) hx hb hts hi6 tyX6 tyX6_ok nmX6 hown hK hP hD hS 0 md_0 rfl 14 (by decide) wd4 (fun _ h9 => h9) rfl (by decide +kernel) rfl rfl (Nat.le_of_ble_eq_true rfl) (md_f14 _) dX6_reads_165 (fun H locs hP hD hS => ?_)
            refine lv_iload_n hx hb dX6_reads_168 rfl (lv_at hl 1 rfl) ?_
            refine lv_if_eq (tgt := 180) hx hb dX6_reads_169 (by decide) (fun c9 => absurd c9 (by decide)) (fun _ => ?_)
            refine lv_aload_n hx hb dX6_reads_172 rfl (lv_at hl 2 rfl) ?_
            refine va_get (D := D) (ci := 5) (C := RX6) (T := TX6) (N := 17) hx hb hts hi6 hown hK hP 0 md_0 rfl 14 (by decide) wd4 (fun _ h9 => h9) rfl dX6_reads_173 ?_
            refine lv_iconst (v := -1) hx hb dX6_reads_176 (by decide) ?_
            refine lv_icmp_eq (tgt := 193) hx hb dX6_reads_177 (by decide) (fun c177 => ?_) (fun c177 => ?_)
            · refine lv_iconst (v := 0) hx hb dX6_reads_193 (by decide) ?_
              exact rw_zret _ hx hb hr (rfl) hP hD hS (Eq.trans (if_pos c32) (Eq.trans (if_pos c89) (Eq.trans (if_neg c106) (Eq.trans (if_neg c114) (Eq.trans (if_neg c133) (Eq.trans (if_pos c177) (rfl))))))) dX6_reads_194 hlocks
            · refine lv_aload_n hx hb dX6_reads_180 rfl (lv_at hl 2 rfl) ?_
              refine lv_aload_n hx hb dX6_reads_181 rfl (lv_at hl 2 rfl) ?_
              refine va_get (D := D) (ci := 5) (C := RX6) (T := TX6) (N := 17) hx hb hts hi6 hown hK hP 0 md_0 rfl 11 (by decide) wd2 (fun _ h9 => h9) rfl dX6_reads_182 ?_
              refine roV CF (c_X6_signAt l D cI cC cW t _ _ _ _ (by first | (with_reducible (refine okT.lo (b := 61) ?_; (repeat (first | exact okT_s6 hty h0 h60 | refine okT_z7 ?_ | refine okT_z8 ?_ | refine okT_n61 ?_)); done)) | (with_reducible (refine okT.lo (b := 62) ?_; (repeat (first | refine okT_z7 ?_ | refine okT_z8 ?_ | refine okT_n62 ?_)); refine okT_i62 ?_; (repeat (first | exact okT_s6 hty h0 h60 | refine okT_z7 ?_ | refine okT_z8 ?_ | refine okT_n61 ?_)); done))) (by first | (with_reducible (refine okT.ty (b := 61) ?_; (repeat (first | exact okT_s6 hty h0 h60 | refine okT_z7 ?_ | refine okT_z8 ?_ | refine okT_n61 ?_)); done)) | (with_reducible (refine okT.ty (b := 62) ?_; (repeat (first | refine okT_z7 ?_ | refine okT_z8 ?_ | refine okT_n62 ?_)); refine okT_i62 ?_; (repeat (first | exact okT_s6 hty h0 h60 | refine okT_z7 ?_ | refine okT_z8 ?_ | refine okT_n61 ?_)); done)))) (cwV 1 hts gX6_reads_X6_signAt rfl rfl rfl (by decide +kernel) ⟨Nat.le_of_ble_eq_true rfl, Nat.le_of_ble_eq_true rfl⟩) hP hK hX hS 0 5 md_0 rfl rfl hl.1 rfl (Nat.le_of_ble_eq_true rfl) dX6_reads_185 ⟨Nat.zero_le _, Nat.zero_le _⟩ ?_
              refine lv_bipush (v := 59) hx hb dX6_reads_188 (by decide) ?_
              refine lv_icmp_eq (tgt := 195) hx hb dX6_reads_190 (by decide) (fun c190 => ?_) (fun c190 => ?_)
              · refine lv_aload_n hx hb dX6_reads_195 rfl (lv_at hl 2 rfl) ?_
                refine lv_dup hx hb dX6_reads_196 rfl ?_
                refine va_get (D := D) (ci := 5) (C := RX6) (T := TX6) (N := 17) hx hb hts hi6 hown hK hP 0 md_0 rfl 11 (by decide) wd2 (fun _ h9 => h9) rfl dX6_reads_197 ?_
                refine lv_iconst (v := 1) hx hb dX6_reads_200 (by decide) ?_
                refine lv_iadd hx hb dX6_reads_201 ?_
                refine my_put (D := D) (ci := 5) (C := RX6) (T := TX6) (N := 17) (ty := .int) hx hb hts hi6 tyX6 tyX6_ok nmX6 hown hK hP hD hS 0 md_0 rfl 11 (by decide) wd2 (fun _ h9 => h9) rfl (by decide +kernel) rfl rfl (Nat.le_of_ble_eq_true rfl) (md_f11 _) dX6_reads_202 (fun H locs hP hD hS => ?_)
                refine lv_iconst (v := 1) hx hb dX6_reads_205 (by decide) ?_
                exact rw_zret _ hx hb hr (rfl) hP hD hS (Eq.trans (if_pos c32) (Eq.trans (if_pos c89) (Eq.trans (if_neg c106) (Eq.trans (if_neg c114) (Eq.trans (if_neg c133) (Eq.trans (if_neg c177) (Eq.trans (if_pos c190) (rfl)))))))) dX6_reads_206 hlocks
              · refine lv_iconst (v := 0) hx hb dX6_reads_193 (by decide) ?_
                exact rw_zret _ hx hb hr (rfl) hP hD hS (Eq.trans (if_pos c32) (Eq.trans (if_pos c89) (Eq.trans (if_neg c106) (Eq.trans (if_neg c114) (Eq.trans (if_neg c133) (Eq.trans (if_neg c177) (Eq.trans (if_neg c190) (rfl)))))))) dX6_reads_194 hlocks
          · refine lv_iconst (v := 1) hx hb dX6_reads_136 (by decide) ?_
            refine lv_goto (tgt := 141) hx hb dX6_reads_137 (by decide) ?_
            refine lv_istore_n (lv' := [(3, .int _), (2, .int _), (0, .ref _), (1, .int _)]) hx hb dX6_reads_141 rfl hl (by decide) rfl (fun ls hl => ?_)
            refine lv_aload_n hx hb dX6_reads_142 rfl (lv_at hl 2 rfl) ?_
            refine lv_dup hx hb dX6_reads_143 rfl ?_
            refine va_get (D := D) (ci := 5) (C := RX6) (T := TX6) (N := 17) hx hb hts hi6 hown hK hP 0 md_0 rfl 11 (by decide) wd2 (fun _ h9 => h9) rfl dX6_reads_144 ?_
            refine lv_iconst (v := 1) hx hb dX6_reads_147 (by decide) ?_
            refine lv_iadd hx hb dX6_reads_148 ?_
            refine my_put (D := D) (ci := 5) (C := RX6) (T := TX6) (N := 17) (ty := .int) hx hb hts hi6 tyX6 tyX6_ok nmX6 hown hK hP hD hS 0 md_0 rfl 11 (by decide) wd2 (fun _ h9 => h9) rfl (by decide +kernel) rfl rfl (Nat.le_of_ble_eq_true rfl) (md_f11 _) dX6_reads_149 (fun H locs hP hD hS => ?_)
            refine lv_aload_n hx hb dX6_reads_152 rfl (lv_at hl 2 rfl) ?_
            refine lv_iload_n hx hb dX6_reads_153 rfl (lv_at hl 0 rfl) ?_
            refine lv_if_eq (tgt := 164) hx hb dX6_reads_154 (by decide) (fun c9 => absurd c9 (by decide)) (fun _ => ?_)
            refine lv_aload_n hx hb dX6_reads_157 rfl (lv_at hl 2 rfl) ?_
            refine rwV CF (c_X6_number l D cI cC cW t _ _ _ _  (by first | (with_reducible (refine okT.lo (b := 61) ?_; (repeat (first | exact okT_s6 hty h0 h60 | refine okT_z7 ?_ | refine okT_z8 ?_ | refine okT_n61 ?_)); done)) | (with_reducible (refine okT.lo (b := 62) ?_; (repeat (first | refine okT_z7 ?_ | refine okT_z8 ?_ | refine okT_n62 ?_)); refine okT_i62 ?_; (repeat (first | exact okT_s6 hty h0 h60 | refine okT_z7 ?_ | refine okT_z8 ?_ | refine okT_n61 ?_)); done))) (by first | (with_reducible (refine okT.ty (b := 61) ?_; (repeat (first | exact okT_s6 hty h0 h60 | refine okT_z7 ?_ | refine okT_z8 ?_ | refine okT_n61 ?_)); done)) | (with_reducible (refine okT.ty (b := 62) ?_; (repeat (first | refine okT_z7 ?_ | refine okT_z8 ?_ | refine okT_n62 ?_)); refine okT_i62 ?_; (repeat (first | exact okT_s6 hty h0 h60 | refine okT_z7 ?_ | refine okT_z8 ?_ | refine okT_n61 ?_)); done)))) (cwV 0 hts gX6_reads_X6_number rfl rfl rfl (by decide +kernel) ⟨Nat.le_of_ble_eq_true rfl, Nat.le_of_ble_eq_true rfl⟩) hP hD hK hX hS hA 0 5 md_0 rfl rfl hl.1 rfl (Nat.le_of_ble_eq_true rfl) dX6_reads_158 ⟨Nat.zero_le _, Nat.zero_le _⟩ (fun H locs hP hD hS => ?_)
            refine lv_goto (tgt := 165) hx hb dX6_reads_161 (by decide) ?_
            refine my_put (D := D) (ci := 5) (C := RX6) (T := TX6) (N := 17) (ty := .int) hx hb hts hi6 tyX6 tyX6_ok nmX6 hown hK hP hD hS 0 md_0 rfl 14 (by decide) wd4 (fun _ h9 => h9) rfl (by decide +kernel) rfl rfl (Nat.le_of_ble_eq_true rfl) (md_f14 _) dX6_reads_165 (fun H locs hP hD hS => ?_)
            refine lv_iload_n hx hb dX6_reads_168 rfl (lv_at hl 1 rfl) ?_
            refine lv_if_eq (tgt := 180) hx hb dX6_reads_169 (by decide) (fun c9 => absurd c9 (by decide)) (fun _ => ?_)
            refine lv_aload_n hx hb dX6_reads_172 rfl (lv_at hl 2 rfl) ?_
            refine va_get (D := D) (ci := 5) (C := RX6) (T := TX6) (N := 17) hx hb hts hi6 hown hK hP 0 md_0 rfl 14 (by decide) wd4 (fun _ h9 => h9) rfl dX6_reads_173 ?_
            refine lv_iconst (v := -1) hx hb dX6_reads_176 (by decide) ?_
            refine lv_icmp_eq (tgt := 193) hx hb dX6_reads_177 (by decide) (fun c177 => ?_) (fun c177 => ?_)
            · refine lv_iconst (v := 0) hx hb dX6_reads_193 (by decide) ?_
              exact rw_zret _ hx hb hr (rfl) hP hD hS (Eq.trans (if_pos c32) (Eq.trans (if_pos c89) (Eq.trans (if_neg c106) (Eq.trans (if_neg c114) (Eq.trans (if_pos c133) (Eq.trans (if_pos c177) (rfl))))))) dX6_reads_194 hlocks
            · refine lv_aload_n hx hb dX6_reads_180 rfl (lv_at hl 2 rfl) ?_
              refine lv_aload_n hx hb dX6_reads_181 rfl (lv_at hl 2 rfl) ?_
              refine va_get (D := D) (ci := 5) (C := RX6) (T := TX6) (N := 17) hx hb hts hi6 hown hK hP 0 md_0 rfl 11 (by decide) wd2 (fun _ h9 => h9) rfl dX6_reads_182 ?_
              refine roV CF (c_X6_signAt l D cI cC cW t _ _ _ _ (by first | (with_reducible (refine okT.lo (b := 61) ?_; (repeat (first | exact okT_s6 hty h0 h60 | refine okT_z7 ?_ | refine okT_z8 ?_ | refine okT_n61 ?_)); done)) | (with_reducible (refine okT.lo (b := 62) ?_; (repeat (first | refine okT_z7 ?_ | refine okT_z8 ?_ | refine okT_n62 ?_)); refine okT_i62 ?_; (repeat (first | exact okT_s6 hty h0 h60 | refine okT_z7 ?_ | refine okT_z8 ?_ | refine okT_n61 ?_)); done))) (by first | (with_reducible (refine okT.ty (b := 61) ?_; (repeat (first | exact okT_s6 hty h0 h60 | refine okT_z7 ?_ | refine okT_z8 ?_ | refine okT_n61 ?_)); done)) | (with_reducible (refine okT.ty (b := 62) ?_; (repeat (first | refine okT_z7 ?_ | refine okT_z8 ?_ | refine okT_n62 ?_)); refine okT_i62 ?_; (repeat (first | exact okT_s6 hty h0 h60 | refine okT_z7 ?_ | refine okT_z8 ?_ | refine okT_n61 ?_)); done)))) (cwV 1 hts gX6_reads_X6_signAt rfl rfl rfl (by decide +kernel) ⟨Nat.le_of_ble_eq_true rfl, Nat.le_of_ble_eq_true rfl⟩) hP hK hX hS 0 5 md_0 rfl rfl hl.1 rfl (Nat.le_of_ble_eq_true rfl) dX6_reads_185 ⟨Nat.zero_le _, Nat.zero_le _⟩ ?_
              refine lv_bipush (v := 59) hx hb dX6_reads_188 (by decide) ?_
              refine lv_icmp_eq (tgt := 195) hx hb dX6_reads_190 (by decide) (fun c190 => ?_) (fun c190 => ?_)
              · refine lv_aload_n hx hb dX6_reads_195 rfl (lv_at hl 2 rfl) ?_
                refine lv_dup hx hb dX6_reads_196 rfl ?_
                refine va_get (D := D) (ci := 5) (C := RX6) (T := TX6) (N := 17) hx hb hts hi6 hown hK hP 0 md_0 rfl 11 (by decide) wd2 (fun _ h9 => h9) rfl dX6_reads_197 ?_
                refine lv_iconst (v := 1) hx hb dX6_reads_200 (by decide) ?_
                refine lv_iadd hx hb dX6_reads_201 ?_
                refine my_put (D := D) (ci := 5) (C := RX6) (T := TX6) (N := 17) (ty := .int) hx hb hts hi6 tyX6 tyX6_ok nmX6 hown hK hP hD hS 0 md_0 rfl 11 (by decide) wd2 (fun _ h9 => h9) rfl (by decide +kernel) rfl rfl (Nat.le_of_ble_eq_true rfl) (md_f11 _) dX6_reads_202 (fun H locs hP hD hS => ?_)
                refine lv_iconst (v := 1) hx hb dX6_reads_205 (by decide) ?_
                exact rw_zret _ hx hb hr (rfl) hP hD hS (Eq.trans (if_pos c32) (Eq.trans (if_pos c89) (Eq.trans (if_neg c106) (Eq.trans (if_neg c114) (Eq.trans (if_pos c133) (Eq.trans (if_neg c177) (Eq.trans (if_pos c190) (rfl)))))))) dX6_reads_206 hlocks
              · refine lv_iconst (v := 0) hx hb dX6_reads_193 (by decide) ?_
                exact rw_zret _ hx hb hr (rfl) hP hD hS (Eq.trans (if_pos c32) (Eq.trans (if_pos c89) (Eq.trans (if_neg c106) (Eq.trans (if_neg c114) (Eq.trans (if_pos c133) (Eq.trans (if_neg c177) (Eq.trans (if_neg c190) (rfl)))))))) dX6_reads_194 hlocks
        · refine lv_iconst (v := 0) hx hb dX6_reads_117 (by decide) ?_
          exact rw_zret _ hx hb hr (rfl) hP hD hS (Eq.trans (if_pos c32) (Eq.trans (if_pos c89) (Eq.trans (if_neg c106) (Eq.trans (if_pos c114) (rfl))))) dX6_reads_118 hlocks
    · refine lv_aload_n hx hb dX6_reads_92 rfl (lv_at hl 1 rfl) ?_
      refine lv_aload_n hx hb dX6_reads_93 rfl (lv_at hl 1 rfl) ?_
      refine rwV CF (c_X6_number l D cI cC cW t _ _ _ _  (by first | (with_reducible (refine okT.lo (b := 61) ?_; (repeat (first | exact okT_s6 hty h0 h60 | refine okT_z7 ?_ | refine okT_z8 ?_ | refine okT_n61 ?_)); done)) | (with_reducible (refine okT.lo (b := 62) ?_; (repeat (first | refine okT_z7 ?_ | refine okT_z8 ?_ | refine okT_n62 ?_)); refine okT_i62 ?_; (repeat (first | exact okT_s6 hty h0 h60 | refine okT_z7 ?_ | refine okT_z8 ?_ | refine okT_n61 ?_)); done))) (by first | (with_reducible (refine okT.ty (b := 61) ?_; (repeat (first | exact okT_s6 hty h0 h60 | refine okT_z7 ?_ | refine okT_z8 ?_ | refine okT_n61 ?_)); done)) | (with_reducible (refine okT.ty (b := 62) ?_; (repeat (first | refine okT_z7 ?_ | refine okT_z8 ?_ | refine okT_n62 ?_)); refine okT_i62 ?_; (repeat (first | exact okT_s6 hty h0 h60 | refine okT_z7 ?_ | refine okT_z8 ?_ | refine okT_n61 ?_)); done)))) (cwV 0 hts gX6_reads_X6_number rfl rfl rfl (by decide +kernel) ⟨Nat.le_of_ble_eq_true rfl, Nat.le_of_ble_eq_true rfl⟩) hP hD hK hX hS hA 0 5 md_0 rfl rfl hl.1 rfl (Nat.le_of_ble_eq_true rfl) dX6_reads_94 ⟨Nat.zero_le _, Nat.zero_le _⟩ (fun H locs hP hD hS => ?_)
      refine my_put (D := D) (ci := 5) (C := RX6) (T := TX6) (N := 17) (ty := .int) hx hb hts hi6 tyX6 tyX6_ok nmX6 hown hK hP hD hS 0 md_0 rfl 13 (by decide) wd3 (fun _ h9 => h9) rfl (by decide +kernel) rfl rfl (Nat.le_of_ble_eq_true rfl) (md_f13 _) dX6_reads_97 (fun H locs hP hD hS => ?_)
      refine lv_aload_n hx hb dX6_reads_100 rfl (lv_at hl 1 rfl) ?_
      refine va_get (D := D) (ci := 5) (C := RX6) (T := TX6) (N := 17) hx hb hts hi6 hown hK hP 0 md_0 rfl 12 (by decide) wd1 (fun _ h9 => h9) rfl dX6_reads_101 ?_
      refine lv_bipush (v := 119) hx hb dX6_reads_104 (by decide) ?_
      refine lv_icmp_eq (tgt := 119) hx hb dX6_reads_106 (by decide) (fun c106 => ?_) (fun c106 => ?_)
      · refine lv_iload_n hx hb dX6_reads_119 rfl (lv_at hl 0 rfl) ?_
        refine lv_if_eq (tgt := 168) hx hb dX6_reads_120 (by decide) (fun c9 => absurd c9 (by decide)) (fun _ => ?_)
        refine lv_aload_n hx hb dX6_reads_123 rfl (lv_at hl 1 rfl) ?_
        refine lv_aload_n hx hb dX6_reads_124 rfl (lv_at hl 1 rfl) ?_
        refine va_get (D := D) (ci := 5) (C := RX6) (T := TX6) (N := 17) hx hb hts hi6 hown hK hP 0 md_0 rfl 11 (by decide) wd2 (fun _ h9 => h9) rfl dX6_reads_125 ?_
        refine roV CF (c_X6_signAt l D cI cC cW t _ _ _ _ (by first | (with_reducible (refine okT.lo (b := 61) ?_; (repeat (first | exact okT_s6 hty h0 h60 | refine okT_z7 ?_ | refine okT_z8 ?_ | refine okT_n61 ?_)); done)) | (with_reducible (refine okT.lo (b := 62) ?_; (repeat (first | refine okT_z7 ?_ | refine okT_z8 ?_ | refine okT_n62 ?_)); refine okT_i62 ?_; (repeat (first | exact okT_s6 hty h0 h60 | refine okT_z7 ?_ | refine okT_z8 ?_ | refine okT_n61 ?_)); done))) (by first | (with_reducible (refine okT.ty (b := 61) ?_; (repeat (first | exact okT_s6 hty h0 h60 | refine okT_z7 ?_ | refine okT_z8 ?_ | refine okT_n61 ?_)); done)) | (with_reducible (refine okT.ty (b := 62) ?_; (repeat (first | refine okT_z7 ?_ | refine okT_z8 ?_ | refine okT_n62 ?_)); refine okT_i62 ?_; (repeat (first | exact okT_s6 hty h0 h60 | refine okT_z7 ?_ | refine okT_z8 ?_ | refine okT_n61 ?_)); done)))) (cwV 1 hts gX6_reads_X6_signAt rfl rfl rfl (by decide +kernel) ⟨Nat.le_of_ble_eq_true rfl, Nat.le_of_ble_eq_true rfl⟩) hP hK hX hS 0 5 md_0 rfl rfl hl.1 rfl (Nat.le_of_ble_eq_true rfl) dX6_reads_128 ⟨Nat.zero_le _, Nat.zero_le _⟩ ?_
        refine lv_bipush (v := 44) hx hb dX6_reads_131 (by decide) ?_
        refine lv_icmp_ne (tgt := 140) hx hb dX6_reads_133 (by decide) (fun c133 => ?_) (fun c133 => ?_)
        · refine lv_iconst (v := 0) hx hb dX6_reads_140 (by decide) ?_
          refine lv_istore_n (lv' := [(3, .int _), (2, .int _), (0, .ref _), (1, .int _)]) hx hb dX6_reads_141 rfl hl (by decide) rfl (fun ls hl => ?_)
          refine lv_aload_n hx hb dX6_reads_142 rfl (lv_at hl 2 rfl) ?_
          refine lv_dup hx hb dX6_reads_143 rfl ?_
          refine va_get (D := D) (ci := 5) (C := RX6) (T := TX6) (N := 17) hx hb hts hi6 hown hK hP 0 md_0 rfl 11 (by decide) wd2 (fun _ h9 => h9) rfl dX6_reads_144 ?_
          refine lv_iconst (v := 1) hx hb dX6_reads_147 (by decide) ?_
          refine lv_iadd hx hb dX6_reads_148 ?_
          refine my_put (D := D) (ci := 5) (C := RX6) (T := TX6) (N := 17) (ty := .int) hx hb hts hi6 tyX6 tyX6_ok nmX6 hown hK hP hD hS 0 md_0 rfl 11 (by decide) wd2 (fun _ h9 => h9) rfl (by decide +kernel) rfl rfl (Nat.le_of_ble_eq_true rfl) (md_f11 _) dX6_reads_149 (fun H locs hP hD hS => ?_)
          refine lv_aload_n hx hb dX6_reads_152 rfl (lv_at hl 2 rfl) ?_
          refine lv_iload_n hx hb dX6_reads_153 rfl (lv_at hl 0 rfl) ?_
          refine lv_if_eq (tgt := 164) hx hb dX6_reads_154 (by decide) (fun _ => ?_) (fun c9 => absurd (by decide) c9)
          refine lv_iconst (v := -1) hx hb dX6_reads_164 (by decide) ?_
          refine my_put (D := D) (ci := 5) (C := RX6) (T := TX6) (N := 17) (ty := .int) hx hb hts hi6 tyX6 tyX6_ok nmX6 hown hK hP hD hS 0 md_0 rfl 14 (by decide) wd4 (fun _ h9 => h9) rfl (by decide +kernel) rfl rfl (Nat.le_of_ble_eq_true rfl) (md_f14 _) dX6_reads_165 (fun H locs hP hD hS => ?_)
          refine lv_iload_n hx hb dX6_reads_168 rfl (lv_at hl 1 rfl) ?_
          refine lv_if_eq (tgt := 180) hx hb dX6_reads_169 (by decide) (fun c9 => absurd c9 (by decide)) (fun _ => ?_)
          refine lv_aload_n hx hb dX6_reads_172 rfl (lv_at hl 2 rfl) ?_
          refine va_get (D := D) (ci := 5) (C := RX6) (T := TX6) (N := 17) hx hb hts hi6 hown hK hP 0 md_0 rfl 14 (by decide) wd4 (fun _ h9 => h9) rfl dX6_reads_173 ?_
          refine lv_iconst (v := -1) hx hb dX6_reads_176 (by decide) ?_
          refine lv_icmp_eq (tgt := 193) hx hb dX6_reads_177 (by decide) (fun c177 => ?_) (fun c177 => ?_)
          · refine lv_iconst (v := 0) hx hb dX6_reads_193 (by decide) ?_
            exact rw_zret _ hx hb hr (rfl) hP hD hS (Eq.trans (if_pos c32) (Eq.trans (if_neg c89) (Eq.trans (if_pos c106) (Eq.trans (if_neg c133) (Eq.trans (if_pos c177) (rfl)))))) dX6_reads_194 hlocks
          · refine lv_aload_n hx hb dX6_reads_180 rfl (lv_at hl 2 rfl) ?_
            refine lv_aload_n hx hb dX6_reads_181 rfl (lv_at hl 2 rfl) ?_
            refine va_get (D := D) (ci := 5) (C := RX6) (T := TX6) (N := 17) hx hb hts hi6 hown hK hP 0 md_0 rfl 11 (by decide) wd2 (fun _ h9 => h9) rfl dX6_reads_182 ?_
            refine roV CF (c_X6_signAt l D cI cC cW t _ _ _ _ (by first | (with_reducible (refine okT.lo (b := 61) ?_; (repeat (first | exact okT_s6 hty h0 h60 | refine okT_z7 ?_ | refine okT_z8 ?_ | refine okT_n61 ?_)); done)) | (with_reducible (refine okT.lo (b := 62) ?_; (repeat (first | refine okT_z7 ?_ | refine okT_z8 ?_ | refine okT_n62 ?_)); refine okT_i62 ?_; (repeat (first | exact okT_s6 hty h0 h60 | refine okT_z7 ?_ | refine okT_z8 ?_ | refine okT_n61 ?_)); done))) (by first | (with_reducible (refine okT.ty (b := 61) ?_; (repeat (first | exact okT_s6 hty h0 h60 | refine okT_z7 ?_ | refine okT_z8 ?_ | refine okT_n61 ?_)); done)) | (with_reducible (refine okT.ty (b := 62) ?_; (repeat (first | refine okT_z7 ?_ | refine okT_z8 ?_ | refine okT_n62 ?_)); refine okT_i62 ?_; (repeat (first | exact okT_s6 hty h0 h60 | refine okT_z7 ?_ | refine okT_z8 ?_ | refine okT_n61 ?_)); done)))) (cwV 1 hts gX6_reads_X6_signAt rfl rfl rfl (by decide +kernel) ⟨Nat.le_of_ble_eq_true rfl, Nat.le_of_ble_eq_true rfl⟩) hP hK hX hS 0 5 md_0 rfl rfl hl.1 rfl (Nat.le_of_ble_eq_true rfl) dX6_reads_185 ⟨Nat.zero_le _, Nat.zero_le _⟩ ?_
            refine lv_bipush (v := 59) hx hb dX6_reads_188 (by decide) ?_
            refine lv_icmp_eq (tgt := 195) hx hb dX6_reads_190 (by decide) (fun c190 => ?_) (fun c190 => ?_)
            · refine lv_aload_n hx hb dX6_reads_195 rfl (lv_at hl 2 rfl) ?_
              refine lv_dup hx hb dX6_reads_196 rfl ?_
              refine va_get (D := D) (ci := 5) (C := RX6) (T := TX6) (N := 17) hx hb hts hi6 hown hK hP 0 md_0 rfl 11 (by decide) wd2 (fun _ h9 => h9) rfl dX6_reads_197 ?_
              refine lv_iconst (v := 1) hx hb dX6_reads_200 (by decide) ?_
              refine lv_iadd hx hb dX6_reads_201 ?_
              refine my_put (D := D) (ci := 5) (C := RX6) (T := TX6) (N := 17) (ty := .int) hx hb hts hi6 tyX6 tyX6_ok nmX6 hown hK hP hD hS 0 md_0 rfl 11 (by decide) wd2 (fun _ h9 => h9) rfl (by decide +kernel) rfl rfl (Nat.le_of_ble_eq_true rfl) (md_f11 _) dX6_reads_202 (fun H locs hP hD hS => ?_)
              refine lv_iconst (v := 1) hx hb dX6_reads_205 (by decide) ?_
              exact rw_zret _ hx hb hr (rfl) hP hD hS (Eq.trans (if_pos c32) (Eq.trans (if_neg c89) (Eq.trans (if_pos c106) (Eq.trans (if_neg c133) (Eq.trans (if_neg c177) (Eq.trans (if_pos c190) (rfl))))))) dX6_reads_206 hlocks
            · refine lv_iconst (v := 0) hx hb dX6_reads_193 (by decide) ?_
              exact rw_zret _ hx hb hr (rfl) hP hD hS (Eq.trans (if_pos c32) (Eq.trans (if_neg c89) (Eq.trans (if_pos c106) (Eq.trans (if_neg c133) (Eq.trans (if_neg c177) (Eq.trans (if_neg c190) (rfl))))))) dX6_reads_194 hlocks
        · refine lv_iconst (v := 1) hx hb dX6_reads_136 (by decide) ?_
          refine lv_goto (tgt := 141) hx hb dX6_reads_137 (by decide) ?_
          refine lv_istore_n (lv' := [(3, .int _), (2, .int _), (0, .ref _), (1, .int _)]) hx hb dX6_reads_141 rfl hl (by decide) rfl (fun ls hl => ?_)
          refine lv_aload_n hx hb dX6_reads_142 rfl (lv_at hl 2 rfl) ?_
          refine lv_dup hx hb dX6_reads_143 rfl ?_
          refine va_get (D := D) (ci := 5) (C := RX6) (T := TX6) (N := 17) hx hb hts hi6 hown hK hP 0 md_0 rfl 11 (by decide) wd2 (fun _ h9 => h9) rfl dX6_reads_144 ?_
          refine lv_iconst (v := 1) hx hb dX6_reads_147 (by decide) ?_
          refine lv_iadd hx hb dX6_reads_148 ?_
          refine my_put (D := D) (ci := 5) (C := RX6) (T := TX6) (N := 17) (ty := .int) hx hb hts hi6 tyX6 tyX6_ok nmX6 hown hK hP hD hS 0 md_0 rfl 11 (by decide) wd2 (fun _ h9 => h9) rfl (by decide +kernel) rfl rfl (Nat.le_of_ble_eq_true rfl) (md_f11 _) dX6_reads_149 (fun H locs hP hD hS => ?_)
          refine lv_aload_n hx hb dX6_reads_152 rfl (lv_at hl 2 rfl) ?_
          refine lv_iload_n hx hb dX6_reads_153 rfl (lv_at hl 0 rfl) ?_
          refine lv_if_eq (tgt := 164) hx hb dX6_reads_154 (by decide) (fun c9 => absurd c9 (by decide)) (fun _ => ?_)
          refine lv_aload_n hx hb dX6_reads_157 rfl (lv_at hl 2 rfl) ?_
          refine rwV CF (c_X6_number l D cI cC cW t _ _ _ _  (by first | (with_reducible (refine okT.lo (b := 61) ?_; (repeat (first | exact okT_s6 hty h0 h60 | refine okT_z7 ?_ | refine okT_z8 ?_ | refine okT_n61 ?_)); done)) | (with_reducible (refine okT.lo (b := 62) ?_; (repeat (first | refine okT_z7 ?_ | refine okT_z8 ?_ | refine okT_n62 ?_)); refine okT_i62 ?_; (repeat (first | exact okT_s6 hty h0 h60 | refine okT_z7 ?_ | refine okT_z8 ?_ | refine okT_n61 ?_)); done))) (by first | (with_reducible (refine okT.ty (b := 61) ?_; (repeat (first | exact okT_s6 hty h0 h60 | refine okT_z7 ?_ | refine okT_z8 ?_ | refine okT_n61 ?_)); done)) | (with_reducible (refine okT.ty (b := 62) ?_; (repeat (first | refine okT_z7 ?_ | refine okT_z8 ?_ | refine okT_n62 ?_)); refine okT_i62 ?_; (repeat (first | exact okT_s6 hty h0 h60 | refine okT_z7 ?_ | refine okT_z8 ?_ | refine okT_n61 ?_)); done)))) (cwV 0 hts gX6_reads_X6_number rfl rfl rfl (by decide +kernel) ⟨Nat.le_of_ble_eq_true rfl, Nat.le_of_ble_eq_true rfl⟩) hP hD hK hX hS hA 0 5 md_0 rfl rfl hl.1 rfl (Nat.le_of_ble_eq_true rfl) dX6_reads_158 ⟨Nat.zero_le _, Nat.zero_le _⟩ (fun H locs hP hD hS => ?_)
          refine lv_goto (tgt := 165) hx hb dX6_reads_161 (by decide) ?_
          refine my_put (D := D) (ci := 5) (C := RX6) (T := TX6) (N := 17) (ty := .int) hx hb hts hi6 tyX6 tyX6_ok nmX6 hown hK hP hD hS 0 md_0 rfl 14 (by decide) wd4 (fun _ h9 => h9) rfl (by decide +kernel) rfl rfl (Nat.le_of_ble_eq_true rfl) (md_f14 _) dX6_reads_165 (fun H locs hP hD hS => ?_)
          refine lv_iload_n hx hb dX6_reads_168 rfl (lv_at hl 1 rfl) ?_
          refine lv_if_eq (tgt := 180) hx hb dX6_reads_169 (by decide) (fun c9 => absurd c9 (by decide)) (fun _ => ?_)
          refine lv_aload_n hx hb dX6_reads_172 rfl (lv_at hl 2 rfl) ?_
          refine va_get (D := D) (ci := 5) (C := RX6) (T := TX6) (N := 17) hx hb hts hi6 hown hK hP 0 md_0 rfl 14 (by decide) wd4 (fun _ h9 => h9) rfl dX6_reads_173 ?_
          refine lv_iconst (v := -1) hx hb dX6_reads_176 (by decide) ?_
          refine lv_icmp_eq (tgt := 193) hx hb dX6_reads_177 (by decide) (fun c177 => ?_) (fun c177 => ?_)
          · refine lv_iconst (v := 0) hx hb dX6_reads_193 (by decide) ?_
            exact rw_zret _ hx hb hr (rfl) hP hD hS (Eq.trans (if_pos c32) (Eq.trans (if_neg c89) (Eq.trans (if_pos c106) (Eq.trans (if_pos c133) (Eq.trans (if_pos c177) (rfl)))))) dX6_reads_194 hlocks
          · refine lv_aload_n hx hb dX6_reads_180 rfl (lv_at hl 2 rfl) ?_
            refine lv_aload_n hx hb dX6_reads_181 rfl (lv_at hl 2 rfl) ?_
            refine va_get (D := D) (ci := 5) (C := RX6) (T := TX6) (N := 17) hx hb hts hi6 hown hK hP 0 md_0 rfl 11 (by decide) wd2 (fun _ h9 => h9) rfl dX6_reads_182 ?_
            refine roV CF (c_X6_signAt l D cI cC cW t _ _ _ _ (by first | (with_reducible (refine okT.lo (b := 61) ?_; (repeat (first | exact okT_s6 hty h0 h60 | refine okT_z7 ?_ | refine okT_z8 ?_ | refine okT_n61 ?_)); done)) | (with_reducible (refine okT.lo (b := 62) ?_; (repeat (first | refine okT_z7 ?_ | refine okT_z8 ?_ | refine okT_n62 ?_)); refine okT_i62 ?_; (repeat (first | exact okT_s6 hty h0 h60 | refine okT_z7 ?_ | refine okT_z8 ?_ | refine okT_n61 ?_)); done))) (by first | (with_reducible (refine okT.ty (b := 61) ?_; (repeat (first | exact okT_s6 hty h0 h60 | refine okT_z7 ?_ | refine okT_z8 ?_ | refine okT_n61 ?_)); done)) | (with_reducible (refine okT.ty (b := 62) ?_; (repeat (first | refine okT_z7 ?_ | refine okT_z8 ?_ | refine okT_n62 ?_)); refine okT_i62 ?_; (repeat (first | exact okT_s6 hty h0 h60 | refine okT_z7 ?_ | refine okT_z8 ?_ | refine okT_n61 ?_)); done)))) (cwV 1 hts gX6_reads_X6_signAt rfl rfl rfl (by decide +kernel) ⟨Nat.le_of_ble_eq_true rfl, Nat.le_of_ble_eq_true rfl⟩) hP hK hX hS 0 5 md_0 rfl rfl hl.1 rfl (Nat.le_of_ble_eq_true rfl) dX6_reads_185 ⟨Nat.zero_le _, Nat.zero_le _⟩ ?_
            refine lv_bipush (v := 59) hx hb dX6_reads_188 (by decide) ?_
            refine lv_icmp_eq (tgt := 195) hx hb dX6_reads_190 (by decide) (fun c190 => ?_) (fun c190 => ?_)
            · refine lv_aload_n hx hb dX6_reads_195 rfl (lv_at hl 2 rfl) ?_
              refine lv_dup hx hb dX6_reads_196 rfl ?_
              refine va_get (D := D) (ci := 5) (C := RX6) (T := TX6) (N := 17) hx hb hts hi6 hown hK hP 0 md_0 rfl 11 (by decide) wd2 (fun _ h9 => h9) rfl dX6_reads_197 ?_
              refine lv_iconst (v := 1) hx hb dX6_reads_200 (by decide) ?_
              refine lv_iadd hx hb dX6_reads_201 ?_
              refine my_put (D := D) (ci := 5) (C := RX6) (T := TX6) (N := 17) (ty := .int) hx hb hts hi6 tyX6 tyX6_ok nmX6 hown hK hP hD hS 0 md_0 rfl 11 (by decide) wd2 (fun _ h9 => h9) rfl (by decide +kernel) rfl rfl (Nat.le_of_ble_eq_true rfl) (md_f11 _) dX6_reads_202 (fun H locs hP hD hS => ?_)
              refine lv_iconst (v := 1) hx hb dX6_reads_205 (by decide) ?_
              exact rw_zret _ hx hb hr (rfl) hP hD hS (Eq.trans (if_pos c32) (Eq.trans (if_neg c89) (Eq.trans (if_pos c106) (Eq.trans (if_pos c133) (Eq.trans (if_neg c177) (Eq.trans (if_pos c190) (rfl))))))) dX6_reads_206 hlocks
            · refine lv_iconst (v := 0) hx hb dX6_reads_193 (by decide) ?_
              exact rw_zret _ hx hb hr (rfl) hP hD hS (Eq.trans (if_pos c32) (Eq.trans (if_neg c89) (Eq.trans (if_pos c106) (Eq.trans (if_pos c133) (Eq.trans (if_neg c177) (Eq.trans (if_neg c190) (rfl))))))) dX6_reads_194 hlocks
      · refine lv_aload_n hx hb dX6_reads_109 rfl (lv_at hl 1 rfl) ?_
        refine va_get (D := D) (ci := 5) (C := RX6) (T := TX6) (N := 17) hx hb hts hi6 hown hK hP 0 md_0 rfl 13 (by decide) wd3 (fun _ h9 => h9) rfl dX6_reads_110 ?_
        refine lv_iconst (v := -1) hx hb dX6_reads_113 (by decide) ?_
        refine lv_icmp_ne (tgt := 119) hx hb dX6_reads_114 (by decide) (fun c114 => ?_) (fun c114 => ?_)
        · refine lv_iload_n hx hb dX6_reads_119 rfl (lv_at hl 0 rfl) ?_
          refine lv_if_eq (tgt := 168) hx hb dX6_reads_120 (by decide) (fun c9 => absurd c9 (by decide)) (fun _ => ?_)
          refine lv_aload_n hx hb dX6_reads_123 rfl (lv_at hl 1 rfl) ?_
          refine lv_aload_n hx hb dX6_reads_124 rfl (lv_at hl 1 rfl) ?_
          refine va_get (D := D) (ci := 5) (C := RX6) (T := TX6) (N := 17) hx hb hts hi6 hown hK hP 0 md_0 rfl 11 (by decide) wd2 (fun _ h9 => h9) rfl dX6_reads_125 ?_
          refine roV CF (c_X6_signAt l D cI cC cW t _ _ _ _ (by first | (with_reducible (refine okT.lo (b := 61) ?_; (repeat (first | exact okT_s6 hty h0 h60 | refine okT_z7 ?_ | refine okT_z8 ?_ | refine okT_n61 ?_)); done)) | (with_reducible (refine okT.lo (b := 62) ?_; (repeat (first | refine okT_z7 ?_ | refine okT_z8 ?_ | refine okT_n62 ?_)); refine okT_i62 ?_; (repeat (first | exact okT_s6 hty h0 h60 | refine okT_z7 ?_ | refine okT_z8 ?_ | refine okT_n61 ?_)); done))) (by first | (with_reducible (refine okT.ty (b := 61) ?_; (repeat (first | exact okT_s6 hty h0 h60 | refine okT_z7 ?_ | refine okT_z8 ?_ | refine okT_n61 ?_)); done)) | (with_reducible (refine okT.ty (b := 62) ?_; (repeat (first | refine okT_z7 ?_ | refine okT_z8 ?_ | refine okT_n62 ?_)); refine okT_i62 ?_; (repeat (first | exact okT_s6 hty h0 h60 | refine okT_z7 ?_ | refine okT_z8 ?_ | refine okT_n61 ?_)); done)))) (cwV 1 hts gX6_reads_X6_signAt rfl rfl rfl (by decide +kernel) ⟨Nat.le_of_ble_eq_true rfl, Nat.le_of_ble_eq_true rfl⟩) hP hK hX hS 0 5 md_0 rfl rfl hl.1 rfl (Nat.le_of_ble_eq_true rfl) dX6_reads_128 ⟨Nat.zero_le _, Nat.zero_le _⟩ ?_
          refine lv_bipush (v := 44) hx hb dX6_reads_131 (by decide) ?_
          refine lv_icmp_ne (tgt := 140) hx hb dX6_reads_133 (by decide) (fun c133 => ?_) (fun c133 => ?_)
          · refine lv_iconst (v := 0) hx hb dX6_reads_140 (by decide) ?_
            refine lv_istore_n (lv' := [(3, .int _), (2, .int _), (0, .ref _), (1, .int _)]) hx hb dX6_reads_141 rfl hl (by decide) rfl (fun ls hl => ?_)
            refine lv_aload_n hx hb dX6_reads_142 rfl (lv_at hl 2 rfl) ?_
            refine lv_dup hx hb dX6_reads_143 rfl ?_
            refine va_get (D := D) (ci := 5) (C := RX6) (T := TX6) (N := 17) hx hb hts hi6 hown hK hP 0 md_0 rfl 11 (by decide) wd2 (fun _ h9 => h9) rfl dX6_reads_144 ?_
            refine lv_iconst (v := 1) hx hb dX6_reads_147 (by decide) ?_
            refine lv_iadd hx hb dX6_reads_148 ?_
            refine my_put (D := D) (ci := 5) (C := RX6) (T := TX6) (N := 17) (ty := .int) hx hb hts hi6 tyX6 tyX6_ok nmX6 hown hK hP hD hS 0 md_0 rfl 11 (by decide) wd2 (fun _ h9 => h9) rfl (by decide +kernel) rfl rfl (Nat.le_of_ble_eq_true rfl) (md_f11 _) dX6_reads_149 (fun H locs hP hD hS => ?_)
            refine lv_aload_n hx hb dX6_reads_152 rfl (lv_at hl 2 rfl) ?_
            refine lv_iload_n hx hb dX6_reads_153 rfl (lv_at hl 0 rfl) ?_
            refine lv_if_eq (tgt := 164) hx hb dX6_reads_154 (by decide) (fun _ => ?_) (fun c9 => absurd (by decide) c9)
            refine lv_iconst (v := -1) hx hb dX6_reads_164 (by decide) ?_
            refine my_put (D := D) (ci := 5) (C := RX6) (T := TX6) (N := 17) (ty := .int) hx hb hts hi6 tyX6 tyX6_ok nmX6 hown hK hP hD hS 0 md_0 rfl 14 (by decide) wd4 (fun _ h9 => h9) rfl (by decide +kernel) rfl rfl (Nat.le_of_ble_eq_true rfl) (md_f14 _) dX6_reads_165 (fun H locs hP hD hS => ?_)
            refine lv_iload_n hx hb dX6_reads_168 rfl (lv_at hl 1 rfl) ?_
            refine lv_if_eq (tgt := 180) hx hb dX6_reads_169 (by decide) (fun c9 => absurd c9 (by decide)) (fun _ => ?_)
            refine lv_aload_n hx hb dX6_reads_172 rfl (lv_at hl 2 rfl) ?_
            refine va_get (D := D) (ci := 5) (C := RX6) (T := TX6) (N := 17) hx hb hts hi6 hown hK hP 0 md_0 rfl 14 (by decide) wd4 (fun _ h9 => h9) rfl dX6_reads_173 ?_
            refine lv_iconst (v := -1) hx hb dX6_reads_176 (by decide) ?_
            refine lv_icmp_eq (tgt := 193) hx hb dX6_reads_177 (by decide) (fun c177 => ?_) (fun c177 => ?_)
            · refine lv_iconst (v := 0) hx hb dX6_reads_193 (by decide) ?_
              exact rw_zret _ hx hb hr (rfl) hP hD hS (Eq.trans (if_pos c32) (Eq.trans (if_neg c89) (Eq.trans (if_neg c106) (Eq.trans (if_neg c114) (Eq.trans (if_neg c133) (Eq.trans (if_pos c177) (rfl))))))) dX6_reads_194 hlocks
            · refine lv_aload_n hx hb dX6_reads_180 rfl (lv_at hl 2 rfl) ?_
              refine lv_aload_n hx hb dX6_reads_181 rfl (lv_at hl 2 rfl) ?_
              refine va_get (D := D) (ci := 5) (C := RX6) (T := TX6) (N := 17) hx hb hts hi6 hown hK hP 0 md_0 rfl 11 (by decide) wd2 (fun _ h9 => h9) rfl dX6_reads_182 ?_
              refine roV CF (c_X6_signAt l D cI cC cW t _ _ _ _ (by first | (with_reducible (refine okT.lo (b := 61) ?_; (repeat (first | exact okT_s6 hty h0 h60 | refine okT_z7 ?_ | refine okT_z8 ?_ | refine okT_n61 ?_)); done)) | (with_reducible (refine okT.lo (b := 62) ?_; (repeat (first | refine okT_z7 ?_ | refine okT_z8 ?_ | refine okT_n62 ?_)); refine okT_i62 ?_; (repeat (first | exact okT_s6 hty h0 h60 | refine okT_z7 ?_ | refine okT_z8 ?_ | refine okT_n61 ?_)); done))) (by first | (with_reducible (refine okT.ty (b := 61) ?_; (repeat (first | exact okT_s6 hty h0 h60 | refine okT_z7 ?_ | refine okT_z8 ?_ | refine okT_n61 ?_)); done)) | (with_reducible (refine okT.ty (b := 62) ?_; (repeat (first | refine okT_z7 ?_ | refine okT_z8 ?_ | refine okT_n62 ?_)); refine okT_i62 ?_; (repeat (first | exact okT_s6 hty h0 h60 | refine okT_z7 ?_ | refine okT_z8 ?_ | refine okT_n61 ?_)); done)))) (cwV 1 hts gX6_reads_X6_signAt rfl rfl rfl (by decide +kernel) ⟨Nat.le_of_ble_eq_true rfl, Nat.le_of_ble_eq_true rfl⟩) hP hK hX hS 0 5 md_0 rfl rfl hl.1 rfl (Nat.le_of_ble_eq_true rfl) dX6_reads_185 ⟨Nat.zero_le _, Nat.zero_le _⟩ ?_
              refine lv_bipush (v := 59) hx hb dX6_reads_188 (by decide) ?_
              refine lv_icmp_eq (tgt := 195) hx hb dX6_reads_190 (by decide) (fun c190 => ?_) (fun c190 => ?_)
              · refine lv_aload_n hx hb dX6_reads_195 rfl (lv_at hl 2 rfl) ?_
                refine lv_dup hx hb dX6_reads_196 rfl ?_
                refine va_get (D := D) (ci := 5) (C := RX6) (T := TX6) (N := 17) hx hb hts hi6 hown hK hP 0 md_0 rfl 11 (by decide) wd2 (fun _ h9 => h9) rfl dX6_reads_197 ?_
                refine lv_iconst (v := 1) hx hb dX6_reads_200 (by decide) ?_
                refine lv_iadd hx hb dX6_reads_201 ?_
                refine my_put (D := D) (ci := 5) (C := RX6) (T := TX6) (N := 17) (ty := .int) hx hb hts hi6 tyX6 tyX6_ok nmX6 hown hK hP hD hS 0 md_0 rfl 11 (by decide) wd2 (fun _ h9 => h9) rfl (by decide +kernel) rfl rfl (Nat.le_of_ble_eq_true rfl) (md_f11 _) dX6_reads_202 (fun H locs hP hD hS => ?_)
                refine lv_iconst (v := 1) hx hb dX6_reads_205 (by decide) ?_
                exact rw_zret _ hx hb hr (rfl) hP hD hS (Eq.trans (if_pos c32) (Eq.trans (if_neg c89) (Eq.trans (if_neg c106) (Eq.trans (if_neg c114) (Eq.trans (if_neg c133) (Eq.trans (if_neg c177) (Eq.trans (if_pos c190) (rfl)))))))) dX6_reads_206 hlocks
              · refine lv_iconst (v := 0) hx hb dX6_reads_193 (by decide) ?_
                exact rw_zret _ hx hb hr (rfl) hP hD hS (Eq.trans (if_pos c32) (Eq.trans (if_neg c89) (Eq.trans (if_neg c106) (Eq.trans (if_neg c114) (Eq.trans (if_neg c133) (Eq.trans (if_neg c177) (Eq.trans (if_neg c190) (rfl)))))))) dX6_reads_194 hlocks
          · refine lv_iconst (v := 1) hx hb dX6_reads_136 (by decide) ?_
            refine lv_goto (tgt := 141) hx hb dX6_reads_137 (by decide) ?_
            refine lv_istore_n (lv' := [(3, .int _), (2, .int _), (0, .ref _), (1, .int _)]) hx hb dX6_reads_141 rfl hl (by decide) rfl (fun ls hl => ?_)
            refine lv_aload_n hx hb dX6_reads_142 rfl (lv_at hl 2 rfl) ?_
            refine lv_dup hx hb dX6_reads_143 rfl ?_
            refine va_get (D := D) (ci := 5) (C := RX6) (T := TX6) (N := 17) hx hb hts hi6 hown hK hP 0 md_0 rfl 11 (by decide) wd2 (fun _ h9 => h9) rfl dX6_reads_144 ?_
            refine lv_iconst (v := 1) hx hb dX6_reads_147 (by decide) ?_
            refine lv_iadd hx hb dX6_reads_148 ?_
            refine my_put (D := D) (ci := 5) (C := RX6) (T := TX6) (N := 17) (ty := .int) hx hb hts hi6 tyX6 tyX6_ok nmX6 hown hK hP hD hS 0 md_0 rfl 11 (by decide) wd2 (fun _ h9 => h9) rfl (by decide +kernel) rfl rfl (Nat.le_of_ble_eq_true rfl) (md_f11 _) dX6_reads_149 (fun H locs hP hD hS => ?_)
            refine lv_aload_n hx hb dX6_reads_152 rfl (lv_at hl 2 rfl) ?_
            refine lv_iload_n hx hb dX6_reads_153 rfl (lv_at hl 0 rfl) ?_
            refine lv_if_eq (tgt := 164) hx hb dX6_reads_154 (by decide) (fun c9 => absurd c9 (by decide)) (fun _ => ?_)
            refine lv_aload_n hx hb dX6_reads_157 rfl (lv_at hl 2 rfl) ?_
            refine rwV CF (c_X6_number l D cI cC cW t _ _ _ _  (by first | (with_reducible (refine okT.lo (b := 61) ?_; (repeat (first | exact okT_s6 hty h0 h60 | refine okT_z7 ?_ | refine okT_z8 ?_ | refine okT_n61 ?_)); done)) | (with_reducible (refine okT.lo (b := 62) ?_; (repeat (first | refine okT_z7 ?_ | refine okT_z8 ?_ | refine okT_n62 ?_)); refine okT_i62 ?_; (repeat (first | exact okT_s6 hty h0 h60 | refine okT_z7 ?_ | refine okT_z8 ?_ | refine okT_n61 ?_)); done))) (by first | (with_reducible (refine okT.ty (b := 61) ?_; (repeat (first | exact okT_s6 hty h0 h60 | refine okT_z7 ?_ | refine okT_z8 ?_ | refine okT_n61 ?_)); done)) | (with_reducible (refine okT.ty (b := 62) ?_; (repeat (first | refine okT_z7 ?_ | refine okT_z8 ?_ | refine okT_n62 ?_)); refine okT_i62 ?_; (repeat (first | exact okT_s6 hty h0 h60 | refine okT_z7 ?_ | refine okT_z8 ?_ | refine okT_n61 ?_)); done)))) (cwV 0 hts gX6_reads_X6_number rfl rfl rfl (by decide +kernel) ⟨Nat.le_of_ble_eq_true rfl, Nat.le_of_ble_eq_true rfl⟩) hP hD hK hX hS hA 0 5 md_0 rfl rfl hl.1 rfl (Nat.le_of_ble_eq_true rfl) dX6_reads_158 ⟨Nat.zero_le _, Nat.zero_le _⟩ (fun H locs hP hD hS => ?_)
            refine lv_goto (tgt := 165) hx hb dX6_reads_161 (by decide) ?_
            refine my_put (D := D) (ci := 5) (C := RX6) (T := TX6) (N := 17) (ty := .int) hx hb hts hi6 tyX6 tyX6_ok nmX6 hown hK hP hD hS 0 md_0 rfl 14 (by decide) wd4 (fun _ h9 => h9) rfl (by decide +kernel) rfl rfl (Nat.le_of_ble_eq_true rfl) (md_f14 _) dX6_reads_165 (fun H locs hP hD hS => ?_)
            refine lv_iload_n hx hb dX6_reads_168 rfl (lv_at hl 1 rfl) ?_
            refine lv_if_eq (tgt := 180) hx hb dX6_reads_169 (by decide) (fun c9 => absurd c9 (by decide)) (fun _ => ?_)
            refine lv_aload_n hx hb dX6_reads_172 rfl (lv_at hl 2 rfl) ?_
            refine va_get (D := D) (ci := 5) (C := RX6) (T := TX6) (N := 17) hx hb hts hi6 hown hK hP 0 md_0 rfl 14 (by decide) wd4 (fun _ h9 => h9) rfl dX6_reads_173 ?_
            refine lv_iconst (v := -1) hx hb dX6_reads_176 (by decide) ?_
            refine lv_icmp_eq (tgt := 193) hx hb dX6_reads_177 (by decide) (fun c177 => ?_) (fun c177 => ?_)
            · refine lv_iconst (v := 0) hx hb dX6_reads_193 (by decide) ?_
              exact rw_zret _ hx hb hr (rfl) hP hD hS (Eq.trans (if_pos c32) (Eq.trans (if_neg c89) (Eq.trans (if_neg c106) (Eq.trans (if_neg c114) (Eq.trans (if_pos c133) (Eq.trans (if_pos c177) (rfl))))))) dX6_reads_194 hlocks
            · refine lv_aload_n hx hb dX6_reads_180 rfl (lv_at hl 2 rfl) ?_
              refine lv_aload_n hx hb dX6_reads_181 rfl (lv_at hl 2 rfl) ?_
              refine va_get (D := D) (ci := 5) (C := RX6) (T := TX6) (N := 17) hx hb hts hi6 hown hK hP 0 md_0 rfl 11 (by decide) wd2 (fun _ h9 => h9) rfl dX6_reads_182 ?_
              refine roV CF (c_X6_signAt l D cI cC cW t _ _ _ _ (by first | (with_reducible (refine okT.lo (b := 61) ?_; (repeat (first | exact okT_s6 hty h0 h60 | refine okT_z7 ?_ | refine okT_z8 ?_ | refine okT_n61 ?_)); done)) | (with_reducible (refine okT.lo (b := 62) ?_; (repeat (first | refine okT_z7 ?_ | refine okT_z8 ?_ | refine okT_n62 ?_)); refine okT_i62 ?_; (repeat (first | exact okT_s6 hty h0 h60 | refine okT_z7 ?_ | refine okT_z8 ?_ | refine okT_n61 ?_)); done))) (by first | (with_reducible (refine okT.ty (b := 61) ?_; (repeat (first | exact okT_s6 hty h0 h60 | refine okT_z7 ?_ | refine okT_z8 ?_ | refine okT_n61 ?_)); done)) | (with_reducible (refine okT.ty (b := 62) ?_; (repeat (first | refine okT_z7 ?_ | refine okT_z8 ?_ | refine okT_n62 ?_)); refine okT_i62 ?_; (repeat (first | exact okT_s6 hty h0 h60 | refine okT_z7 ?_ | refine okT_z8 ?_ | refine okT_n61 ?_)); done)))) (cwV 1 hts gX6_reads_X6_signAt rfl rfl rfl (by decide +kernel) ⟨Nat.le_of_ble_eq_true rfl, Nat.le_of_ble_eq_true rfl⟩) hP hK hX hS 0 5 md_0 rfl rfl hl.1 rfl (Nat.le_of_ble_eq_true rfl) dX6_reads_185 ⟨Nat.zero_le _, Nat.zero_le _⟩ ?_
              refine lv_bipush (v := 59) hx hb dX6_reads_188 (by decide) ?_
              refine lv_icmp_eq (tgt := 195) hx hb dX6_reads_190 (by decide) (fun c190 => ?_) (fun c190 => ?_)
              · refine lv_aload_n hx hb dX6_reads_195 rfl (lv_at hl 2 rfl) ?_
                refine lv_dup hx hb dX6_reads_196 rfl ?_
                refine va_get (D := D) (ci := 5) (C := RX6) (T := TX6) (N := 17) hx hb hts hi6 hown hK hP 0 md_0 rfl 11 (by decide) wd2 (fun _ h9 => h9) rfl dX6_reads_197 ?_
                refine lv_iconst (v := 1) hx hb dX6_reads_200 (by decide) ?_
                refine lv_iadd hx hb dX6_reads_201 ?_
                refine my_put (D := D) (ci := 5) (C := RX6) (T := TX6) (N := 17) (ty := .int) hx hb hts hi6 tyX6 tyX6_ok nmX6 hown hK hP hD hS 0 md_0 rfl 11 (by decide) wd2 (fun _ h9 => h9) rfl (by decide +kernel) rfl rfl (Nat.le_of_ble_eq_true rfl) (md_f11 _) dX6_reads_202 (fun H locs hP hD hS => ?_)
                refine lv_iconst (v := 1) hx hb dX6_reads_205 (by decide) ?_
                exact rw_zret _ hx hb hr (rfl) hP hD hS (Eq.trans (if_pos c32) (Eq.trans (if_neg c89) (Eq.trans (if_neg c106) (Eq.trans (if_neg c114) (Eq.trans (if_pos c133) (Eq.trans (if_neg c177) (Eq.trans (if_pos c190) (rfl)))))))) dX6_reads_206 hlocks
              · refine lv_iconst (v := 0) hx hb dX6_reads_193 (by decide) ?_
                exact rw_zret _ hx hb hr (rfl) hP hD hS (Eq.trans (if_pos c32) (Eq.trans (if_neg c89) (Eq.trans (if_neg c106) (Eq.trans (if_neg c114) (Eq.trans (if_pos c133) (Eq.trans (if_neg c177) (Eq.trans (if_neg c190) (rfl)))))))) dX6_reads_194 hlocks
        · refine lv_iconst (v := 0) hx hb dX6_reads_117 (by decide) ?_
          exact rw_zret _ hx hb hr (rfl) hP hD hS (Eq.trans (if_pos c32) (Eq.trans (if_neg c89) (Eq.trans (if_neg c106) (Eq.trans (if_pos c114) (rfl))))) dX6_reads_118 hlocks
  · refine lv_aload_n hx hb dX6_reads_35 rfl (lv_at hl 0 rfl) ?_
    refine va_get (D := D) (ci := 5) (C := RX6) (T := TX6) (N := 17) hx hb hts hi6 hown hK hP 0 md_0 rfl 12 (by decide) wd1 (fun _ h9 => h9) rfl dX6_reads_36 ?_
    refine lv_bipush (v := 109) hx hb dX6_reads_39 (by decide) ?_
    refine lv_icmp_eq (tgt := 53) hx hb dX6_reads_41 (by decide) (fun c41 => ?_) (fun c41 => ?_)
    · refine lv_iconst (v := 1) hx hb dX6_reads_53 (by decide) ?_
      refine lv_goto (tgt := 58) hx hb dX6_reads_54 (by decide) ?_
      refine lv_istore_n (lv' := [(2, .int _), (0, .ref _), (1, .int _)]) hx hb dX6_reads_58 rfl hl (by decide) rfl (fun ls hl => ?_)
      refine lv_iload_n hx hb dX6_reads_59 rfl (lv_at hl 0 rfl) ?_
      refine lv_if_ne (tgt := 83) hx hb dX6_reads_60 (by decide) (fun _ => ?_) (fun c9 => absurd c9 (by decide))
      refine lv_aload_n hx hb dX6_reads_83 rfl (lv_at hl 1 rfl) ?_
      refine va_get (D := D) (ci := 5) (C := RX6) (T := TX6) (N := 17) hx hb hts hi6 hown hK hP 0 md_0 rfl 12 (by decide) wd1 (fun _ h9 => h9) rfl dX6_reads_84 ?_
      refine lv_bipush (v := 119) hx hb dX6_reads_87 (by decide) ?_
      refine lv_icmp_eq (tgt := 100) hx hb dX6_reads_89 (by decide) (fun c89 => ?_) (fun c89 => ?_)
      · refine lv_aload_n hx hb dX6_reads_100 rfl (lv_at hl 1 rfl) ?_
        refine va_get (D := D) (ci := 5) (C := RX6) (T := TX6) (N := 17) hx hb hts hi6 hown hK hP 0 md_0 rfl 12 (by decide) wd1 (fun _ h9 => h9) rfl dX6_reads_101 ?_
        refine lv_bipush (v := 119) hx hb dX6_reads_104 (by decide) ?_
        refine lv_icmp_eq (tgt := 119) hx hb dX6_reads_106 (by decide) (fun c106 => ?_) (fun c106 => ?_)
        · refine lv_iload_n hx hb dX6_reads_119 rfl (lv_at hl 0 rfl) ?_
          refine lv_if_eq (tgt := 168) hx hb dX6_reads_120 (by decide) (fun c9 => absurd c9 (by decide)) (fun _ => ?_)
          refine lv_aload_n hx hb dX6_reads_123 rfl (lv_at hl 1 rfl) ?_
          refine lv_aload_n hx hb dX6_reads_124 rfl (lv_at hl 1 rfl) ?_
          refine va_get (D := D) (ci := 5) (C := RX6) (T := TX6) (N := 17) hx hb hts hi6 hown hK hP 0 md_0 rfl 11 (by decide) wd2 (fun _ h9 => h9) rfl dX6_reads_125 ?_
          refine roV CF (c_X6_signAt l D cI cC cW t _ _ _ _ (by first | (with_reducible (refine okT.lo (b := 61) ?_; (repeat (first | exact okT_s6 hty h0 h60 | refine okT_z7 ?_ | refine okT_z8 ?_ | refine okT_n61 ?_)); done)) | (with_reducible (refine okT.lo (b := 62) ?_; (repeat (first | refine okT_z7 ?_ | refine okT_z8 ?_ | refine okT_n62 ?_)); refine okT_i62 ?_; (repeat (first | exact okT_s6 hty h0 h60 | refine okT_z7 ?_ | refine okT_z8 ?_ | refine okT_n61 ?_)); done))) (by first | (with_reducible (refine okT.ty (b := 61) ?_; (repeat (first | exact okT_s6 hty h0 h60 | refine okT_z7 ?_ | refine okT_z8 ?_ | refine okT_n61 ?_)); done)) | (with_reducible (refine okT.ty (b := 62) ?_; (repeat (first | refine okT_z7 ?_ | refine okT_z8 ?_ | refine okT_n62 ?_)); refine okT_i62 ?_; (repeat (first | exact okT_s6 hty h0 h60 | refine okT_z7 ?_ | refine okT_z8 ?_ | refine okT_n61 ?_)); done)))) (cwV 1 hts gX6_reads_X6_signAt rfl rfl rfl (by decide +kernel) ⟨Nat.le_of_ble_eq_true rfl, Nat.le_of_ble_eq_true rfl⟩) hP hK hX hS 0 5 md_0 rfl rfl hl.1 rfl (Nat.le_of_ble_eq_true rfl) dX6_reads_128 ⟨Nat.zero_le _, Nat.zero_le _⟩ ?_
          refine lv_bipush (v := 44) hx hb dX6_reads_131 (by decide) ?_
          refine lv_icmp_ne (tgt := 140) hx hb dX6_reads_133 (by decide) (fun c133 => ?_) (fun c133 => ?_)
          · refine lv_iconst (v := 0) hx hb dX6_reads_140 (by decide) ?_
            refine lv_istore_n (lv' := [(3, .int _), (2, .int _), (0, .ref _), (1, .int _)]) hx hb dX6_reads_141 rfl hl (by decide) rfl (fun ls hl => ?_)
            refine lv_aload_n hx hb dX6_reads_142 rfl (lv_at hl 2 rfl) ?_
            refine lv_dup hx hb dX6_reads_143 rfl ?_
            refine va_get (D := D) (ci := 5) (C := RX6) (T := TX6) (N := 17) hx hb hts hi6 hown hK hP 0 md_0 rfl 11 (by decide) wd2 (fun _ h9 => h9) rfl dX6_reads_144 ?_
            refine lv_iconst (v := 1) hx hb dX6_reads_147 (by decide) ?_
            refine lv_iadd hx hb dX6_reads_148 ?_
            refine my_put (D := D) (ci := 5) (C := RX6) (T := TX6) (N := 17) (ty := .int) hx hb hts hi6 tyX6 tyX6_ok nmX6 hown hK hP hD hS 0 md_0 rfl 11 (by decide) wd2 (fun _ h9 => h9) rfl (by decide +kernel) rfl rfl (Nat.le_of_ble_eq_true rfl) (md_f11 _) dX6_reads_149 (fun H locs hP hD hS => ?_)
            refine lv_aload_n hx hb dX6_reads_152 rfl (lv_at hl 2 rfl) ?_
            refine lv_iload_n hx hb dX6_reads_153 rfl (lv_at hl 0 rfl) ?_
            refine lv_if_eq (tgt := 164) hx hb dX6_reads_154 (by decide) (fun _ => ?_) (fun c9 => absurd (by decide) c9)
            refine lv_iconst (v := -1) hx hb dX6_reads_164 (by decide) ?_
            refine my_put (D := D) (ci := 5) (C := RX6) (T := TX6) (N := 17) (ty := .int) hx hb hts hi6 tyX6 tyX6_ok nmX6 hown hK hP hD hS 0 md_0 rfl 14 (by decide) wd4 (fun _ h9 => h9) rfl (by decide +kernel) rfl rfl (Nat.le_of_ble_eq_true rfl) (md_f14 _) dX6_reads_165 (fun H locs hP hD hS => ?_)
            refine lv_iload_n hx hb dX6_reads_168 rfl (lv_at hl 1 rfl) ?_
            refine lv_if_eq (tgt := 180) hx hb dX6_reads_169 (by decide) (fun c9 => absurd c9 (by decide)) (fun _ => ?_)
            refine lv_aload_n hx hb dX6_reads_172 rfl (lv_at hl 2 rfl) ?_
            refine va_get (D := D) (ci := 5) (C := RX6) (T := TX6) (N := 17) hx hb hts hi6 hown hK hP 0 md_0 rfl 14 (by decide) wd4 (fun _ h9 => h9) rfl dX6_reads_173 ?_
            refine lv_iconst (v := -1) hx hb dX6_reads_176 (by decide) ?_
            refine lv_icmp_eq (tgt := 193) hx hb dX6_reads_177 (by decide) (fun c177 => ?_) (fun c177 => ?_)
            · refine lv_iconst (v := 0) hx hb dX6_reads_193 (by decide) ?_
              exact rw_zret _ hx hb hr (rfl) hP hD hS (Eq.trans (if_neg c32) (Eq.trans (if_pos c41) (Eq.trans (if_pos c89) (Eq.trans (if_pos c106) (Eq.trans (if_neg c133) (Eq.trans (if_pos c177) (rfl))))))) dX6_reads_194 hlocks
            · refine lv_aload_n hx hb dX6_reads_180 rfl (lv_at hl 2 rfl) ?_
              refine lv_aload_n hx hb dX6_reads_181 rfl (lv_at hl 2 rfl) ?_
              refine va_get (D := D) (ci := 5) (C := RX6) (T := TX6) (N := 17) hx hb hts hi6 hown hK hP 0 md_0 rfl 11 (by decide) wd2 (fun _ h9 => h9) rfl dX6_reads_182 ?_
              refine roV CF (c_X6_signAt l D cI cC cW t _ _ _ _ (by first | (with_reducible (refine okT.lo (b := 61) ?_; (repeat (first | exact okT_s6 hty h0 h60 | refine okT_z7 ?_ | refine okT_z8 ?_ | refine okT_n61 ?_)); done)) | (with_reducible (refine okT.lo (b := 62) ?_; (repeat (first | refine okT_z7 ?_ | refine okT_z8 ?_ | refine okT_n62 ?_)); refine okT_i62 ?_; (repeat (first | exact okT_s6 hty h0 h60 | refine okT_z7 ?_ | refine okT_z8 ?_ | refine okT_n61 ?_)); done))) (by first | (with_reducible (refine okT.ty (b := 61) ?_; (repeat (first | exact okT_s6 hty h0 h60 | refine okT_z7 ?_ | refine okT_z8 ?_ | refine okT_n61 ?_)); done)) | (with_reducible (refine okT.ty (b := 62) ?_; (repeat (first | refine okT_z7 ?_ | refine okT_z8 ?_ | refine okT_n62 ?_)); refine okT_i62 ?_; (repeat (first | exact okT_s6 hty h0 h60 | refine okT_z7 ?_ | refine okT_z8 ?_ | refine okT_n61 ?_)); done)))) (cwV 1 hts gX6_reads_X6_signAt rfl rfl rfl (by decide +kernel) ⟨Nat.le_of_ble_eq_true rfl, Nat.le_of_ble_eq_true rfl⟩) hP hK hX hS 0 5 md_0 rfl rfl hl.1 rfl (Nat.le_of_ble_eq_true rfl) dX6_reads_185 ⟨Nat.zero_le _, Nat.zero_le _⟩ ?_
              refine lv_bipush (v := 59) hx hb dX6_reads_188 (by decide) ?_
              refine lv_icmp_eq (tgt := 195) hx hb dX6_reads_190 (by decide) (fun c190 => ?_) (fun c190 => ?_)
              · refine lv_aload_n hx hb dX6_reads_195 rfl (lv_at hl 2 rfl) ?_
                refine lv_dup hx hb dX6_reads_196 rfl ?_
                refine va_get (D := D) (ci := 5) (C := RX6) (T := TX6) (N := 17) hx hb hts hi6 hown hK hP 0 md_0 rfl 11 (by decide) wd2 (fun _ h9 => h9) rfl dX6_reads_197 ?_
                refine lv_iconst (v := 1) hx hb dX6_reads_200 (by decide) ?_
                refine lv_iadd hx hb dX6_reads_201 ?_
                refine my_put (D := D) (ci := 5) (C := RX6) (T := TX6) (N := 17) (ty := .int) hx hb hts hi6 tyX6 tyX6_ok nmX6 hown hK hP hD hS 0 md_0 rfl 11 (by decide) wd2 (fun _ h9 => h9) rfl (by decide +kernel) rfl rfl (Nat.le_of_ble_eq_true rfl) (md_f11 _) dX6_reads_202 (fun H locs hP hD hS => ?_)
                refine lv_iconst (v := 1) hx hb dX6_reads_205 (by decide) ?_
                exact rw_zret _ hx hb hr (rfl) hP hD hS (Eq.trans (if_neg c32) (Eq.trans (if_pos c41) (Eq.trans (if_pos c89) (Eq.trans (if_pos c106) (Eq.trans (if_neg c133) (Eq.trans (if_neg c177) (Eq.trans (if_pos c190) (rfl)))))))) dX6_reads_206 hlocks
              · refine lv_iconst (v := 0) hx hb dX6_reads_193 (by decide) ?_
                exact rw_zret _ hx hb hr (rfl) hP hD hS (Eq.trans (if_neg c32) (Eq.trans (if_pos c41) (Eq.trans (if_pos c89) (Eq.trans (if_pos c106) (Eq.trans (if_neg c133) (Eq.trans (if_neg c177) (Eq.trans (if_neg c190) (rfl)))))))) dX6_reads_194 hlocks
          · refine lv_iconst (v := 1) hx hb dX6_reads_136 (by decide) ?_
            refine lv_goto (tgt := 141) hx hb dX6_reads_137 (by decide) ?_
            refine lv_istore_n (lv' := [(3, .int _), (2, .int _), (0, .ref _), (1, .int _)]) hx hb dX6_reads_141 rfl hl (by decide) rfl (fun ls hl => ?_)
            refine lv_aload_n hx hb dX6_reads_142 rfl (lv_at hl 2 rfl) ?_
            refine lv_dup hx hb dX6_reads_143 rfl ?_
            refine va_get (D := D) (ci := 5) (C := RX6) (T := TX6) (N := 17) hx hb hts hi6 hown hK hP 0 md_0 rfl 11 (by decide) wd2 (fun _ h9 => h9) rfl dX6_reads_144 ?_
            refine lv_iconst (v := 1) hx hb dX6_reads_147 (by decide) ?_
            refine lv_iadd hx hb dX6_reads_148 ?_
            refine my_put (D := D) (ci := 5) (C := RX6) (T := TX6) (N := 17) (ty := .int) hx hb hts hi6 tyX6 tyX6_ok nmX6 hown hK hP hD hS 0 md_0 rfl 11 (by decide) wd2 (fun _ h9 => h9) rfl (by decide +kernel) rfl rfl (Nat.le_of_ble_eq_true rfl) (md_f11 _) dX6_reads_149 (fun H locs hP hD hS => ?_)
            refine lv_aload_n hx hb dX6_reads_152 rfl (lv_at hl 2 rfl) ?_
            refine lv_iload_n hx hb dX6_reads_153 rfl (lv_at hl 0 rfl) ?_
            refine lv_if_eq (tgt := 164) hx hb dX6_reads_154 (by decide) (fun c9 => absurd c9 (by decide)) (fun _ => ?_)
            refine lv_aload_n hx hb dX6_reads_157 rfl (lv_at hl 2 rfl) ?_
            refine rwV CF (c_X6_number l D cI cC cW t _ _ _ _  (by first | (with_reducible (refine okT.lo (b := 61) ?_; (repeat (first | exact okT_s6 hty h0 h60 | refine okT_z7 ?_ | refine okT_z8 ?_ | refine okT_n61 ?_)); done)) | (with_reducible (refine okT.lo (b := 62) ?_; (repeat (first | refine okT_z7 ?_ | refine okT_z8 ?_ | refine okT_n62 ?_)); refine okT_i62 ?_; (repeat (first | exact okT_s6 hty h0 h60 | refine okT_z7 ?_ | refine okT_z8 ?_ | refine okT_n61 ?_)); done))) (by first | (with_reducible (refine okT.ty (b := 61) ?_; (repeat (first | exact okT_s6 hty h0 h60 | refine okT_z7 ?_ | refine okT_z8 ?_ | refine okT_n61 ?_)); done)) | (with_reducible (refine okT.ty (b := 62) ?_; (repeat (first | refine okT_z7 ?_ | refine okT_z8 ?_ | refine okT_n62 ?_)); refine okT_i62 ?_; (repeat (first | exact okT_s6 hty h0 h60 | refine okT_z7 ?_ | refine okT_z8 ?_ | refine okT_n61 ?_)); done)))) (cwV 0 hts gX6_reads_X6_number rfl rfl rfl (by decide +kernel) ⟨Nat.le_of_ble_eq_true rfl, Nat.le_of_ble_eq_true rfl⟩) hP hD hK hX hS hA 0 5 md_0 rfl rfl hl.1 rfl (Nat.le_of_ble_eq_true rfl) dX6_reads_158 ⟨Nat.zero_le _, Nat.zero_le _⟩ (fun H locs hP hD hS => ?_)
            refine lv_goto (tgt := 165) hx hb dX6_reads_161 (by decide) ?_
            refine my_put (D := D) (ci := 5) (C := RX6) (T := TX6) (N := 17) (ty := .int) hx hb hts hi6 tyX6 tyX6_ok nmX6 hown hK hP hD hS 0 md_0 rfl 14 (by decide) wd4 (fun _ h9 => h9) rfl (by decide +kernel) rfl rfl (Nat.le_of_ble_eq_true rfl) (md_f14 _) dX6_reads_165 (fun H locs hP hD hS => ?_)
            refine lv_iload_n hx hb dX6_reads_168 rfl (lv_at hl 1 rfl) ?_
            refine lv_if_eq (tgt := 180) hx hb dX6_reads_169 (by decide) (fun c9 => absurd c9 (by decide)) (fun _ => ?_)
            refine lv_aload_n hx hb dX6_reads_172 rfl (lv_at hl 2 rfl) ?_
            refine va_get (D := D) (ci := 5) (C := RX6) (T := TX6) (N := 17) hx hb hts hi6 hown hK hP 0 md_0 rfl 14 (by decide) wd4 (fun _ h9 => h9) rfl dX6_reads_173 ?_
            refine lv_iconst (v := -1) hx hb dX6_reads_176 (by decide) ?_
            refine lv_icmp_eq (tgt := 193) hx hb dX6_reads_177 (by decide) (fun c177 => ?_) (fun c177 => ?_)
            · refine lv_iconst (v := 0) hx hb dX6_reads_193 (by decide) ?_
              exact rw_zret _ hx hb hr (rfl) hP hD hS (Eq.trans (if_neg c32) (Eq.trans (if_pos c41) (Eq.trans (if_pos c89) (Eq.trans (if_pos c106) (Eq.trans (if_pos c133) (Eq.trans (if_pos c177) (rfl))))))) dX6_reads_194 hlocks
            · refine lv_aload_n hx hb dX6_reads_180 rfl (lv_at hl 2 rfl) ?_
              refine lv_aload_n hx hb dX6_reads_181 rfl (lv_at hl 2 rfl) ?_
              refine va_get (D := D) (ci := 5) (C := RX6) (T := TX6) (N := 17) hx hb hts hi6 hown hK hP 0 md_0 rfl 11 (by decide) wd2 (fun _ h9 => h9) rfl dX6_reads_182 ?_
              refine roV CF (c_X6_signAt l D cI cC cW t _ _ _ _ (by first | (with_reducible (refine okT.lo (b := 61) ?_; (repeat (first | exact okT_s6 hty h0 h60 | refine okT_z7 ?_ | refine okT_z8 ?_ | refine okT_n61 ?_)); done)) | (with_reducible (refine okT.lo (b := 62) ?_; (repeat (first | refine okT_z7 ?_ | refine okT_z8 ?_ | refine okT_n62 ?_)); refine okT_i62 ?_; (repeat (first | exact okT_s6 hty h0 h60 | refine okT_z7 ?_ | refine okT_z8 ?_ | refine okT_n61 ?_)); done))) (by first | (with_reducible (refine okT.ty (b := 61) ?_; (repeat (first | exact okT_s6 hty h0 h60 | refine okT_z7 ?_ | refine okT_z8 ?_ | refine okT_n61 ?_)); done)) | (with_reducible (refine okT.ty (b := 62) ?_; (repeat (first | refine okT_z7 ?_ | refine okT_z8 ?_ | refine okT_n62 ?_)); refine okT_i62 ?_; (repeat (first | exact okT_s6 hty h0 h60 | refine okT_z7 ?_ | refine okT_z8 ?_ | refine okT_n61 ?_)); done)))) (cwV 1 hts gX6_reads_X6_signAt rfl rfl rfl (by decide +kernel) ⟨Nat.le_of_ble_eq_true rfl, Nat.le_of_ble_eq_true rfl⟩) hP hK hX hS 0 5 md_0 rfl rfl hl.1 rfl (Nat.le_of_ble_eq_true rfl) dX6_reads_185 ⟨Nat.zero_le _, Nat.zero_le _⟩ ?_
              refine lv_bipush (v := 59) hx hb dX6_reads_188 (by decide) ?_
              refine lv_icmp_eq (tgt := 195) hx hb dX6_reads_190 (by decide) (fun c190 => ?_) (fun c190 => ?_)
              · refine lv_aload_n hx hb dX6_reads_195 rfl (lv_at hl 2 rfl) ?_
                refine lv_dup hx hb dX6_reads_196 rfl ?_
                refine va_get (D := D) (ci := 5) (C := RX6) (T := TX6) (N := 17) hx hb hts hi6 hown hK hP 0 md_0 rfl 11 (by decide) wd2 (fun _ h9 => h9) rfl dX6_reads_197 ?_
                refine lv_iconst (v := 1) hx hb dX6_reads_200 (by decide) ?_
                refine lv_iadd hx hb dX6_reads_201 ?_
                refine my_put (D := D) (ci := 5) (C := RX6) (T := TX6) (N := 17) (ty := .int) hx hb hts hi6 tyX6 tyX6_ok nmX6 hown hK hP hD hS 0 md_0 rfl 11 (by decide) wd2 (fun _ h9 => h9) rfl (by decide +kernel) rfl rfl (Nat.le_of_ble_eq_true rfl) (md_f11 _) dX6_reads_202 (fun H locs hP hD hS => ?_)
                refine lv_iconst (v := 1) hx hb dX6_reads_205 (by decide) ?_
                exact rw_zret _ hx hb hr (rfl) hP hD hS (Eq.trans (if_neg c32) (Eq.trans (if_pos c41) (Eq.trans (if_pos c89) (Eq.trans (if_pos c106) (Eq.trans (if_pos c133) (Eq.trans (if_neg c177) (Eq.trans (if_pos c190) (rfl)))))))) dX6_reads_206 hlocks
              · refine lv_iconst (v := 0) hx hb dX6_reads_193 (by decide) ?_
                exact rw_zret _ hx hb hr (rfl) hP hD hS (Eq.trans (if_neg c32) (Eq.trans (if_pos c41) (Eq.trans (if_pos c89) (Eq.trans (if_pos c106) (Eq.trans (if_pos c133) (Eq.trans (if_neg c177) (Eq.trans (if_neg c190) (rfl)))))))) dX6_reads_194 hlocks
        · refine lv_aload_n hx hb dX6_reads_109 rfl (lv_at hl 1 rfl) ?_
          refine va_get (D := D) (ci := 5) (C := RX6) (T := TX6) (N := 17) hx hb hts hi6 hown hK hP 0 md_0 rfl 13 (by decide) wd3 (fun _ h9 => h9) rfl dX6_reads_110 ?_
          refine lv_iconst (v := -1) hx hb dX6_reads_113 (by decide) ?_
          refine lv_icmp_ne (tgt := 119) hx hb dX6_reads_114 (by decide) (fun c114 => ?_) (fun c114 => ?_)
          · refine lv_iload_n hx hb dX6_reads_119 rfl (lv_at hl 0 rfl) ?_
            refine lv_if_eq (tgt := 168) hx hb dX6_reads_120 (by decide) (fun c9 => absurd c9 (by decide)) (fun _ => ?_)
            refine lv_aload_n hx hb dX6_reads_123 rfl (lv_at hl 1 rfl) ?_
            refine lv_aload_n hx hb dX6_reads_124 rfl (lv_at hl 1 rfl) ?_
            refine va_get (D := D) (ci := 5) (C := RX6) (T := TX6) (N := 17) hx hb hts hi6 hown hK hP 0 md_0 rfl 11 (by decide) wd2 (fun _ h9 => h9) rfl dX6_reads_125 ?_
            refine roV CF (c_X6_signAt l D cI cC cW t _ _ _ _ (by first | (with_reducible (refine okT.lo (b := 61) ?_; (repeat (first | exact okT_s6 hty h0 h60 | refine okT_z7 ?_ | refine okT_z8 ?_ | refine okT_n61 ?_)); done)) | (with_reducible (refine okT.lo (b := 62) ?_; (repeat (first | refine okT_z7 ?_ | refine okT_z8 ?_ | refine okT_n62 ?_)); refine okT_i62 ?_; (repeat (first | exact okT_s6 hty h0 h60 | refine okT_z7 ?_ | refine okT_z8 ?_ | refine okT_n61 ?_)); done))) (by first | (with_reducible (refine okT.ty (b := 61) ?_; (repeat (first | exact okT_s6 hty h0 h60 | refine okT_z7 ?_ | refine okT_z8 ?_ | refine okT_n61 ?_)); done)) | (with_reducible (refine okT.ty (b := 62) ?_; (repeat (first | refine okT_z7 ?_ | refine okT_z8 ?_ | refine okT_n62 ?_)); refine okT_i62 ?_; (repeat (first | exact okT_s6 hty h0 h60 | refine okT_z7 ?_ | refine okT_z8 ?_ | refine okT_n61 ?_)); done)))) (cwV 1 hts gX6_reads_X6_signAt rfl rfl rfl (by decide +kernel) ⟨Nat.le_of_ble_eq_true rfl, Nat.le_of_ble_eq_true rfl⟩) hP hK hX hS 0 5 md_0 rfl rfl hl.1 rfl (Nat.le_of_ble_eq_true rfl) dX6_reads_128 ⟨Nat.zero_le _, Nat.zero_le _⟩ ?_
            refine lv_bipush (v := 44) hx hb dX6_reads_131 (by decide) ?_
            refine lv_icmp_ne (tgt := 140) hx hb dX6_reads_133 (by decide) (fun c133 => ?_) (fun c133 => ?_)
            · refine lv_iconst (v := 0) hx hb dX6_reads_140 (by decide) ?_
              refine lv_istore_n (lv' := [(3, .int _), (2, .int _), (0, .ref _), (1, .int _)]) hx hb dX6_reads_141 rfl hl (by decide) rfl (fun ls hl => ?_)
              refine lv_aload_n hx hb dX6_reads_142 rfl (lv_at hl 2 rfl) ?_
              refine lv_dup hx hb dX6_reads_143 rfl ?_
              refine va_get (D := D) (ci := 5) (C := RX6) (T := TX6) (N := 17) hx hb hts hi6 hown hK hP 0 md_0 rfl 11 (by decide) wd2 (fun _ h9 => h9) rfl dX6_reads_144 ?_
              refine lv_iconst (v := 1) hx hb dX6_reads_147 (by decide) ?_
              refine lv_iadd hx hb dX6_reads_148 ?_
              refine my_put (D := D) (ci := 5) (C := RX6) (T := TX6) (N := 17) (ty := .int) hx hb hts hi6 tyX6 tyX6_ok nmX6 hown hK hP hD hS 0 md_0 rfl 11 (by decide) wd2 (fun _ h9 => h9) rfl (by decide +kernel) rfl rfl (Nat.le_of_ble_eq_true rfl) (md_f11 _) dX6_reads_149 (fun H locs hP hD hS => ?_)
              refine lv_aload_n hx hb dX6_reads_152 rfl (lv_at hl 2 rfl) ?_
              refine lv_iload_n hx hb dX6_reads_153 rfl (lv_at hl 0 rfl) ?_
              refine lv_if_eq (tgt := 164) hx hb dX6_reads_154 (by decide) (fun _ => ?_) (fun c9 => absurd (by decide) c9)
              refine lv_iconst (v := -1) hx hb dX6_reads_164 (by decide) ?_
              refine my_put (D := D) (ci := 5) (C := RX6) (T := TX6) (N := 17) (ty := .int) hx hb hts hi6 tyX6 tyX6_ok nmX6 hown hK hP hD hS 0 md_0 rfl 14 (by decide) wd4 (fun _ h9 => h9) rfl (by decide +kernel) rfl rfl (Nat.le_of_ble_eq_true rfl) (md_f14 _) dX6_reads_165 (fun H locs hP hD hS => ?_)
              refine lv_iload_n hx hb dX6_reads_168 rfl (lv_at hl 1 rfl) ?_
              refine lv_if_eq (tgt := 180) hx hb dX6_reads_169 (by decide) (fun c9 => absurd c9 (by decide)) (fun _ => ?_)
              refine lv_aload_n hx hb dX6_reads_172 rfl (lv_at hl 2 rfl) ?_
              refine va_get (D := D) (ci := 5) (C := RX6) (T := TX6) (N := 17) hx hb hts hi6 hown hK hP 0 md_0 rfl 14 (by decide) wd4 (fun _ h9 => h9) rfl dX6_reads_173 ?_
              refine lv_iconst (v := -1) hx hb dX6_reads_176 (by decide) ?_
              refine lv_icmp_eq (tgt := 193) hx hb dX6_reads_177 (by decide) (fun c177 => ?_) (fun c177 => ?_)
              · refine lv_iconst (v := 0) hx hb dX6_reads_193 (by decide) ?_
                exact rw_zret _ hx hb hr (rfl) hP hD hS (Eq.trans (if_neg c32) (Eq.trans (if_pos c41) (Eq.trans (if_pos c89) (Eq.trans (if_neg c106) (Eq.trans (if_neg c114) (Eq.trans (if_neg c133) (Eq.trans (if_pos c177) (rfl)))))))) dX6_reads_194 hlocks
              · refine lv_aload_n hx hb dX6_reads_180 rfl (lv_at hl 2 rfl) ?_
                refine lv_aload_n hx hb dX6_reads_181 rfl (lv_at hl 2 rfl) ?_
                refine va_get (D := D) (ci := 5) (C := RX6) (T := TX6) (N := 17) hx hb hts hi6 hown hK hP 0 md_0 rfl 11 (by decide) wd2 (fun _ h9 => h9) rfl dX6_reads_182 ?_
                refine roV CF (c_X6_signAt l D cI cC cW t _ _ _ _ (by first | (with_reducible (refine okT.lo (b := 61) ?_; (repeat (first | exact okT_s6 hty h0 h60 | refine okT_z7 ?_ | refine okT_z8 ?_ | refine okT_n61 ?_)); done)) | (with_reducible (refine okT.lo (b := 62) ?_; (repeat (first | refine okT_z7 ?_ | refine okT_z8 ?_ | refine okT_n62 ?_)); refine okT_i62 ?_; (repeat (first | exact okT_s6 hty h0 h60 | refine okT_z7 ?_ | refine okT_z8 ?_ | refine okT_n61 ?_)); done))) (by first | (with_reducible (refine okT.ty (b := 61) ?_; (repeat (first | exact okT_s6 hty h0 h60 | refine okT_z7 ?_ | refine okT_z8 ?_ | refine okT_n61 ?_)); done)) | (with_reducible (refine okT.ty (b := 62) ?_; (repeat (first | refine okT_z7 ?_ | refine okT_z8 ?_ | refine okT_n62 ?_)); refine okT_i62 ?_; (repeat (first | exact okT_s6 hty h0 h60 | refine okT_z7 ?_ | refine okT_z8 ?_ | refine okT_n61 ?_)); done)))) (cwV 1 hts gX6_reads_X6_signAt rfl rfl rfl (by decide +kernel) ⟨Nat.le_of_ble_eq_true rfl, Nat.le_of_ble_eq_true rfl⟩) hP hK hX hS 0 5 md_0 rfl rfl hl.1 rfl (Nat.le_of_ble_eq_true rfl) dX6_reads_185 ⟨Nat.zero_le _, Nat.zero_le _⟩ ?_
                refine lv_bipush (v := 59) hx hb dX6_reads_188 (by decide) ?_
                refine lv_icmp_eq (tgt := 195) hx hb dX6_reads_190 (by decide) (fun c190 => ?_) (fun c190 => ?_)
                · refine lv_aload_n hx hb dX6_reads_195 rfl (lv_at hl 2 rfl) ?_
                  refine lv_dup hx hb dX6_reads_196 rfl ?_
                  refine va_get (D := D) (ci := 5) (C := RX6) (T := TX6) (N := 17) hx hb hts hi6 hown hK hP 0 md_0 rfl 11 (by decide) wd2 (fun _ h9 => h9) rfl dX6_reads_197 ?_
                  refine lv_iconst (v := 1) hx hb dX6_reads_200 (by decide) ?_
                  refine lv_iadd hx hb dX6_reads_201 ?_
                  refine my_put (D := D) (ci := 5) (C := RX6) (T := TX6) (N := 17) (ty := .int) hx hb hts hi6 tyX6 tyX6_ok nmX6 hown hK hP hD hS 0 md_0 rfl 11 (by decide) wd2 (fun _ h9 => h9) rfl (by decide +kernel) rfl rfl (Nat.le_of_ble_eq_true rfl) (md_f11 _) dX6_reads_202 (fun H locs hP hD hS => ?_)
                  refine lv_iconst (v := 1) hx hb dX6_reads_205 (by decide) ?_
                  exact rw_zret _ hx hb hr (rfl) hP hD hS (Eq.trans (if_neg c32) (Eq.trans (if_pos c41) (Eq.trans (if_pos c89) (Eq.trans (if_neg c106) (Eq.trans (if_neg c114) (Eq.trans (if_neg c133) (Eq.trans (if_neg c177) (Eq.trans (if_pos c190) (rfl))))))))) dX6_reads_206 hlocks
                · refine lv_iconst (v := 0) hx hb dX6_reads_193 (by decide) ?_
                  exact rw_zret _ hx hb hr (rfl) hP hD hS (Eq.trans (if_neg c32) (Eq.trans (if_pos c41) (Eq.trans (if_pos c89) (Eq.trans (if_neg c106) (Eq.trans (if_neg c114) (Eq.trans (if_neg c133) (Eq.trans (if_neg c177) (Eq.trans (if_neg c190) (rfl))))))))) dX6_reads_194 hlocks
            · refine lv_iconst (v := 1) hx hb dX6_reads_136 (by decide) ?_
              refine lv_goto (tgt := 141) hx hb dX6_reads_137 (by decide) ?_
              refine lv_istore_n (lv' := [(3, .int _), (2, .int _), (0, .ref _), (1, .int _)]) hx hb dX6_reads_141 rfl hl (by decide) rfl (fun ls hl => ?_)
              refine lv_aload_n hx hb dX6_reads_142 rfl (lv_at hl 2 rfl) ?_
              refine lv_dup hx hb dX6_reads_143 rfl ?_
              refine va_get (D := D) (ci := 5) (C := RX6) (T := TX6) (N := 17) hx hb hts hi6 hown hK hP 0 md_0 rfl 11 (by decide) wd2 (fun _ h9 => h9) rfl dX6_reads_144 ?_
              refine lv_iconst (v := 1) hx hb dX6_reads_147 (by decide) ?_
              refine lv_iadd hx hb dX6_reads_148 ?_
              refine my_put (D := D) (ci := 5) (C := RX6) (T := TX6) (N := 17) (ty := .int) hx hb hts hi6 tyX6 tyX6_ok nmX6 hown hK hP hD hS 0 md_0 rfl 11 (by decide) wd2 (fun _ h9 => h9) rfl (by decide +kernel) rfl rfl (Nat.le_of_ble_eq_true rfl) (md_f11 _) dX6_reads_149 (fun H locs hP hD hS => ?_)
              refine lv_aload_n hx hb dX6_reads_152 rfl (lv_at hl 2 rfl) ?_
              refine lv_iload_n hx hb dX6_reads_153 rfl (lv_at hl 0 rfl) ?_
              refine lv_if_eq (tgt := 164) hx hb dX6_reads_154 (by decide) (fun c9 => absurd c9 (by decide)) (fun _ => ?_)
              refine lv_aload_n hx hb dX6_reads_157 rfl (lv_at hl 2 rfl) ?_
              refine rwV CF (c_X6_number l D cI cC cW t _ _ _ _  (by first | (with_reducible (refine okT.lo (b := 61) ?_; (repeat (first | exact okT_s6 hty h0 h60 | refine okT_z7 ?_ | refine okT_z8 ?_ | refine okT_n61 ?_)); done)) | (with_reducible (refine okT.lo (b := 62) ?_; (repeat (first | refine okT_z7 ?_ | refine okT_z8 ?_ | refine okT_n62 ?_)); refine okT_i62 ?_; (repeat (first | exact okT_s6 hty h0 h60 | refine okT_z7 ?_ | refine okT_z8 ?_ | refine okT_n61 ?_)); done))) (by first | (with_reducible (refine okT.ty (b := 61) ?_; (repeat (first | exact okT_s6 hty h0 h60 | refine okT_z7 ?_ | refine okT_z8 ?_ | refine okT_n61 ?_)); done)) | (with_reducible (refine okT.ty (b := 62) ?_; (repeat (first | refine okT_z7 ?_ | refine okT_z8 ?_ | refine okT_n62 ?_)); refine okT_i62 ?_; (repeat (first | exact okT_s6 hty h0 h60 | refine okT_z7 ?_ | refine okT_z8 ?_ | refine okT_n61 ?_)); done)))) (cwV 0 hts gX6_reads_X6_number rfl rfl rfl (by decide +kernel) ⟨Nat.le_of_ble_eq_true rfl, Nat.le_of_ble_eq_true rfl⟩) hP hD hK hX hS hA 0 5 md_0 rfl rfl hl.1 rfl (Nat.le_of_ble_eq_true rfl) dX6_reads_158 ⟨Nat.zero_le _, Nat.zero_le _⟩ (fun H locs hP hD hS => ?_)
              refine lv_goto (tgt := 165) hx hb dX6_reads_161 (by decide) ?_
              refine my_put (D := D) (ci := 5) (C := RX6) (T := TX6) (N := 17) (ty := .int) hx hb hts hi6 tyX6 tyX6_ok nmX6 hown hK hP hD hS 0 md_0 rfl 14 (by decide) wd4 (fun _ h9 => h9) rfl (by decide +kernel) rfl rfl (Nat.le_of_ble_eq_true rfl) (md_f14 _) dX6_reads_165 (fun H locs hP hD hS => ?_)
              refine lv_iload_n hx hb dX6_reads_168 rfl (lv_at hl 1 rfl) ?_
              refine lv_if_eq (tgt := 180) hx hb dX6_reads_169 (by decide) (fun c9 => absurd c9 (by decide)) (fun _ => ?_)
              refine lv_aload_n hx hb dX6_reads_172 rfl (lv_at hl 2 rfl) ?_
              refine va_get (D := D) (ci := 5) (C := RX6) (T := TX6) (N := 17) hx hb hts hi6 hown hK hP 0 md_0 rfl 14 (by decide) wd4 (fun _ h9 => h9) rfl dX6_reads_173 ?_
              refine lv_iconst (v := -1) hx hb dX6_reads_176 (by decide) ?_
              refine lv_icmp_eq (tgt := 193) hx hb dX6_reads_177 (by decide) (fun c177 => ?_) (fun c177 => ?_)
              · refine lv_iconst (v := 0) hx hb dX6_reads_193 (by decide) ?_
                exact rw_zret _ hx hb hr (rfl) hP hD hS (Eq.trans (if_neg c32) (Eq.trans (if_pos c41) (Eq.trans (if_pos c89) (Eq.trans (if_neg c106) (Eq.trans (if_neg c114) (Eq.trans (if_pos c133) (Eq.trans (if_pos c177) (rfl)))))))) dX6_reads_194 hlocks
              · refine lv_aload_n hx hb dX6_reads_180 rfl (lv_at hl 2 rfl) ?_
                refine lv_aload_n hx hb dX6_reads_181 rfl (lv_at hl 2 rfl) ?_
                refine va_get (D := D) (ci := 5) (C := RX6) (T := TX6) (N := 17) hx hb hts hi6 hown hK hP 0 md_0 rfl 11 (by decide) wd2 (fun _ h9 => h9) rfl dX6_reads_182 ?_
                refine roV CF (c_X6_signAt l D cI cC cW t _ _ _ _ (by first | (with_reducible (refine okT.lo (b := 61) ?_; (repeat (first | exact okT_s6 hty h0 h60 | refine okT_z7 ?_ | refine okT_z8 ?_ | refine okT_n61 ?_)); done)) | (with_reducible (refine okT.lo (b := 62) ?_; (repeat (first | refine okT_z7 ?_ | refine okT_z8 ?_ | refine okT_n62 ?_)); refine okT_i62 ?_; (repeat (first | exact okT_s6 hty h0 h60 | refine okT_z7 ?_ | refine okT_z8 ?_ | refine okT_n61 ?_)); done))) (by first | (with_reducible (refine okT.ty (b := 61) ?_; (repeat (first | exact okT_s6 hty h0 h60 | refine okT_z7 ?_ | refine okT_z8 ?_ | refine okT_n61 ?_)); done)) | (with_reducible (refine okT.ty (b := 62) ?_; (repeat (first | refine okT_z7 ?_ | refine okT_z8 ?_ | refine okT_n62 ?_)); refine okT_i62 ?_; (repeat (first | exact okT_s6 hty h0 h60 | refine okT_z7 ?_ | refine okT_z8 ?_ | refine okT_n61 ?_)); done)))) (cwV 1 hts gX6_reads_X6_signAt rfl rfl rfl (by decide +kernel) ⟨Nat.le_of_ble_eq_true rfl, Nat.le_of_ble_eq_true rfl⟩) hP hK hX hS 0 5 md_0 rfl rfl hl.1 rfl (Nat.le_of_ble_eq_true rfl) dX6_reads_185 ⟨Nat.zero_le _, Nat.zero_le _⟩ ?_
                refine lv_bipush (v := 59) hx hb dX6_reads_188 (by decide) ?_
                refine lv_icmp_eq (tgt := 195) hx hb dX6_reads_190 (by decide) (fun c190 => ?_) (fun c190 => ?_)
                · refine lv_aload_n hx hb dX6_reads_195 rfl (lv_at hl 2 rfl) ?_
                  refine lv_dup hx hb dX6_reads_196 rfl ?_
                  refine va_get (D := D) (ci := 5) (C := RX6) (T := TX6) (N := 17) hx hb hts hi6 hown hK hP 0 md_0 rfl 11 (by decide) wd2 (fun _ h9 => h9) rfl dX6_reads_197 ?_
                  refine lv_iconst (v := 1) hx hb dX6_reads_200 (by decide) ?_
                  refine lv_iadd hx hb dX6_reads_201 ?_
                  refine my_put (D := D) (ci := 5) (C := RX6) (T := TX6) (N := 17) (ty := .int) hx hb hts hi6 tyX6 tyX6_ok nmX6 hown hK hP hD hS 0 md_0 rfl 11 (by decide) wd2 (fun _ h9 => h9) rfl (by decide +kernel) rfl rfl (Nat.le_of_ble_eq_true rfl) (md_f11 _) dX6_reads_202 (fun H locs hP hD hS => ?_)
                  refine lv_iconst (v := 1) hx hb dX6_reads_205 (by decide) ?_
                  exact rw_zret _ hx hb hr (rfl) hP hD hS (Eq.trans (if_neg c32) (Eq.trans (if_pos c41) (Eq.trans (if_pos c89) (Eq.trans (if_neg c106) (Eq.trans (if_neg c114) (Eq.trans (if_pos c133) (Eq.trans (if_neg c177) (Eq.trans (if_pos c190) (rfl))))))))) dX6_reads_206 hlocks
                · refine lv_iconst (v := 0) hx hb dX6_reads_193 (by decide) ?_
                  exact rw_zret _ hx hb hr (rfl) hP hD hS (Eq.trans (if_neg c32) (Eq.trans (if_pos c41) (Eq.trans (if_pos c89) (Eq.trans (if_neg c106) (Eq.trans (if_neg c114) (Eq.trans (if_pos c133) (Eq.trans (if_neg c177) (Eq.trans (if_neg c190) (rfl))))))))) dX6_reads_194 hlocks
          · refine lv_iconst (v := 0) hx hb dX6_reads_117 (by decide) ?_
            exact rw_zret _ hx hb hr (rfl) hP hD hS (Eq.trans (if_neg c32) (Eq.trans (if_pos c41) (Eq.trans (if_pos c89) (Eq.trans (if_neg c106) (Eq.trans (if_pos c114) (rfl)))))) dX6_reads_118 hlocks
      · refine lv_aload_n hx hb dX6_reads_92 rfl (lv_at hl 1 rfl) ?_
        refine lv_aload_n hx hb dX6_reads_93 rfl (lv_at hl 1 rfl) ?_
        refine rwV CF (c_X6_number l D cI cC cW t _ _ _ _  (by first | (with_reducible (refine okT.lo (b := 61) ?_; (repeat (first | exact okT_s6 hty h0 h60 | refine okT_z7 ?_ | refine okT_z8 ?_ | refine okT_n61 ?_)); done)) | (with_reducible (refine okT.lo (b := 62) ?_; (repeat (first | refine okT_z7 ?_ | refine okT_z8 ?_ | refine okT_n62 ?_)); refine okT_i62 ?_; (repeat (first | exact okT_s6 hty h0 h60 | refine okT_z7 ?_ | refine okT_z8 ?_ | refine okT_n61 ?_)); done))) (by first | (with_reducible (refine okT.ty (b := 61) ?_; (repeat (first | exact okT_s6 hty h0 h60 | refine okT_z7 ?_ | refine okT_z8 ?_ | refine okT_n61 ?_)); done)) | (with_reducible (refine okT.ty (b := 62) ?_; (repeat (first | refine okT_z7 ?_ | refine okT_z8 ?_ | refine okT_n62 ?_)); refine okT_i62 ?_; (repeat (first | exact okT_s6 hty h0 h60 | refine okT_z7 ?_ | refine okT_z8 ?_ | refine okT_n61 ?_)); done)))) (cwV 0 hts gX6_reads_X6_number rfl rfl rfl (by decide +kernel) ⟨Nat.le_of_ble_eq_true rfl, Nat.le_of_ble_eq_true rfl⟩) hP hD hK hX hS hA 0 5 md_0 rfl rfl hl.1 rfl (Nat.le_of_ble_eq_true rfl) dX6_reads_94 ⟨Nat.zero_le _, Nat.zero_le _⟩ (fun H locs hP hD hS => ?_)
        refine my_put (D := D) (ci := 5) (C := RX6) (T := TX6) (N := 17) (ty := .int) hx hb hts hi6 tyX6 tyX6_ok nmX6 hown hK hP hD hS 0 md_0 rfl 13 (by decide) wd3 (fun _ h9 => h9) rfl (by decide +kernel) rfl rfl (Nat.le_of_ble_eq_true rfl) (md_f13 _) dX6_reads_97 (fun H locs hP hD hS => ?_)
        refine lv_aload_n hx hb dX6_reads_100 rfl (lv_at hl 1 rfl) ?_
        refine va_get (D := D) (ci := 5) (C := RX6) (T := TX6) (N := 17) hx hb hts hi6 hown hK hP 0 md_0 rfl 12 (by decide) wd1 (fun _ h9 => h9) rfl dX6_reads_101 ?_
        refine lv_bipush (v := 119) hx hb dX6_reads_104 (by decide) ?_
        refine lv_icmp_eq (tgt := 119) hx hb dX6_reads_106 (by decide) (fun c106 => ?_) (fun c106 => ?_)
        · refine lv_iload_n hx hb dX6_reads_119 rfl (lv_at hl 0 rfl) ?_
          refine lv_if_eq (tgt := 168) hx hb dX6_reads_120 (by decide) (fun c9 => absurd c9 (by decide)) (fun _ => ?_)
          refine lv_aload_n hx hb dX6_reads_123 rfl (lv_at hl 1 rfl) ?_
          refine lv_aload_n hx hb dX6_reads_124 rfl (lv_at hl 1 rfl) ?_
          refine va_get (D := D) (ci := 5) (C := RX6) (T := TX6) (N := 17) hx hb hts hi6 hown hK hP 0 md_0 rfl 11 (by decide) wd2 (fun _ h9 => h9) rfl dX6_reads_125 ?_
          refine roV CF (c_X6_signAt l D cI cC cW t _ _ _ _ (by first | (with_reducible (refine okT.lo (b := 61) ?_; (repeat (first | exact okT_s6 hty h0 h60 | refine okT_z7 ?_ | refine okT_z8 ?_ | refine okT_n61 ?_)); done)) | (with_reducible (refine okT.lo (b := 62) ?_; (repeat (first | refine okT_z7 ?_ | refine okT_z8 ?_ | refine okT_n62 ?_)); refine okT_i62 ?_; (repeat (first | exact okT_s6 hty h0 h60 | refine okT_z7 ?_ | refine okT_z8 ?_ | refine okT_n61 ?_)); done))) (by first | (with_reducible (refine okT.ty (b := 61) ?_; (repeat (first | exact okT_s6 hty h0 h60 | refine okT_z7 ?_ | refine okT_z8 ?_ | refine okT_n61 ?_)); done)) | (with_reducible (refine okT.ty (b := 62) ?_; (repeat (first | refine okT_z7 ?_ | refine okT_z8 ?_ | refine okT_n62 ?_)); refine okT_i62 ?_; (repeat (first | exact okT_s6 hty h0 h60 | refine okT_z7 ?_ | refine okT_z8 ?_ | refine okT_n61 ?_)); done)))) (cwV 1 hts gX6_reads_X6_signAt rfl rfl rfl (by decide +kernel) ⟨Nat.le_of_ble_eq_true rfl, Nat.le_of_ble_eq_true rfl⟩) hP hK hX hS 0 5 md_0 rfl rfl hl.1 rfl (Nat.le_of_ble_eq_true rfl) dX6_reads_128 ⟨Nat.zero_le _, Nat.zero_le _⟩ ?_
          refine lv_bipush (v := 44) hx hb dX6_reads_131 (by decide) ?_
          refine lv_icmp_ne (tgt := 140) hx hb dX6_reads_133 (by decide) (fun c133 => ?_) (fun c133 => ?_)
          · refine lv_iconst (v := 0) hx hb dX6_reads_140 (by decide) ?_
            refine lv_istore_n (lv' := [(3, .int _), (2, .int _), (0, .ref _), (1, .int _)]) hx hb dX6_reads_141 rfl hl (by decide) rfl (fun ls hl => ?_)
            refine lv_aload_n hx hb dX6_reads_142 rfl (lv_at hl 2 rfl) ?_
            refine lv_dup hx hb dX6_reads_143 rfl ?_
            refine va_get (D := D) (ci := 5) (C := RX6) (T := TX6) (N := 17) hx hb hts hi6 hown hK hP 0 md_0 rfl 11 (by decide) wd2 (fun _ h9 => h9) rfl dX6_reads_144 ?_
            refine lv_iconst (v := 1) hx hb dX6_reads_147 (by decide) ?_
            refine lv_iadd hx hb dX6_reads_148 ?_
            refine my_put (D := D) (ci := 5) (C := RX6) (T := TX6) (N := 17) (ty := .int) hx hb hts hi6 tyX6 tyX6_ok nmX6 hown hK hP hD hS 0 md_0 rfl 11 (by decide) wd2 (fun _ h9 => h9) rfl (by decide +kernel) rfl rfl (Nat.le_of_ble_eq_true rfl) (md_f11 _) dX6_reads_149 (fun H locs hP hD hS => ?_)
            refine lv_aload_n hx hb dX6_reads_152 rfl (lv_at hl 2 rfl) ?_
            refine lv_iload_n hx hb dX6_reads_153 rfl (lv_at hl 0 rfl) ?_
            refine lv_if_eq (tgt := 164) hx hb dX6_reads_154 (by decide) (fun _ => ?_) (fun c9 => absurd (by decide) c9)
            refine lv_iconst (v := -1) hx hb dX6_reads_164 (by decide) ?_
            refine my_put (D := D) (ci := 5) (C := RX6) (T := TX6) (N := 17) (ty := .int) hx hb hts hi6 tyX6 tyX6_ok nmX6 hown hK hP hD hS 0 md_0 rfl 14 (by decide) wd4 (fun _ h9 => h9) rfl (by decide +kernel) rfl rfl (Nat.le_of_ble_eq_true rfl) (md_f14 _) dX6_reads_165 (fun H locs hP hD hS => ?_)
            refine lv_iload_n hx hb dX6_reads_168 rfl (lv_at hl 1 rfl) ?_
            refine lv_if_eq (tgt := 180) hx hb dX6_reads_169 (by decide) (fun c9 => absurd c9 (by decide)) (fun _ => ?_)
            refine lv_aload_n hx hb dX6_reads_172 rfl (lv_at hl 2 rfl) ?_
            refine va_get (D := D) (ci := 5) (C := RX6) (T := TX6) (N := 17) hx hb hts hi6 hown hK hP 0 md_0 rfl 14 (by decide) wd4 (fun _ h9 => h9) rfl dX6_reads_173 ?_
            refine lv_iconst (v := -1) hx hb dX6_reads_176 (by decide) ?_
            refine lv_icmp_eq (tgt := 193) hx hb dX6_reads_177 (by decide) (fun c177 => ?_) (fun c177 => ?_)
            · refine lv_iconst (v := 0) hx hb dX6_reads_193 (by decide) ?_
              exact rw_zret _ hx hb hr (rfl) hP hD hS (Eq.trans (if_neg c32) (Eq.trans (if_pos c41) (Eq.trans (if_neg c89) (Eq.trans (if_pos c106) (Eq.trans (if_neg c133) (Eq.trans (if_pos c177) (rfl))))))) dX6_reads_194 hlocks
            · refine lv_aload_n hx hb dX6_reads_180 rfl (lv_at hl 2 rfl) ?_
              refine lv_aload_n hx hb dX6_reads_181 rfl (lv_at hl 2 rfl) ?_
              refine va_get (D := D) (ci := 5) (C := RX6) (T := TX6) (N := 17) hx hb hts hi6 hown hK hP 0 md_0 rfl 11 (by decide) wd2 (fun _ h9 => h9) rfl dX6_reads_182 ?_
              refine roV CF (c_X6_signAt l D cI cC cW t _ _ _ _ (by first | (with_reducible (refine okT.lo (b := 61) ?_; (repeat (first | exact okT_s6 hty h0 h60 | refine okT_z7 ?_ | refine okT_z8 ?_ | refine okT_n61 ?_)); done)) | (with_reducible (refine okT.lo (b := 62) ?_; (repeat (first | refine okT_z7 ?_ | refine okT_z8 ?_ | refine okT_n62 ?_)); refine okT_i62 ?_; (repeat (first | exact okT_s6 hty h0 h60 | refine okT_z7 ?_ | refine okT_z8 ?_ | refine okT_n61 ?_)); done))) (by first | (with_reducible (refine okT.ty (b := 61) ?_; (repeat (first | exact okT_s6 hty h0 h60 | refine okT_z7 ?_ | refine okT_z8 ?_ | refine okT_n61 ?_)); done)) | (with_reducible (refine okT.ty (b := 62) ?_; (repeat (first | refine okT_z7 ?_ | refine okT_z8 ?_ | refine okT_n62 ?_)); refine okT_i62 ?_; (repeat (first | exact okT_s6 hty h0 h60 | refine okT_z7 ?_ | refine okT_z8 ?_ | refine okT_n61 ?_)); done)))) (cwV 1 hts gX6_reads_X6_signAt rfl rfl rfl (by decide +kernel) ⟨Nat.le_of_ble_eq_true rfl, Nat.le_of_ble_eq_true rfl⟩) hP hK hX hS 0 5 md_0 rfl rfl hl.1 rfl (Nat.le_of_ble_eq_true rfl) dX6_reads_185 ⟨Nat.zero_le _, Nat.zero_le _⟩ ?_
              refine lv_bipush (v := 59) hx hb dX6_reads_188 (by decide) ?_
              refine lv_icmp_eq (tgt := 195) hx hb dX6_reads_190 (by decide) (fun c190 => ?_) (fun c190 => ?_)
              · refine lv_aload_n hx hb dX6_reads_195 rfl (lv_at hl 2 rfl) ?_
                refine lv_dup hx hb dX6_reads_196 rfl ?_
                refine va_get (D := D) (ci := 5) (C := RX6) (T := TX6) (N := 17) hx hb hts hi6 hown hK hP 0 md_0 rfl 11 (by decide) wd2 (fun _ h9 => h9) rfl dX6_reads_197 ?_
                refine lv_iconst (v := 1) hx hb dX6_reads_200 (by decide) ?_
                refine lv_iadd hx hb dX6_reads_201 ?_
                refine my_put (D := D) (ci := 5) (C := RX6) (T := TX6) (N := 17) (ty := .int) hx hb hts hi6 tyX6 tyX6_ok nmX6 hown hK hP hD hS 0 md_0 rfl 11 (by decide) wd2 (fun _ h9 => h9) rfl (by decide +kernel) rfl rfl (Nat.le_of_ble_eq_true rfl) (md_f11 _) dX6_reads_202 (fun H locs hP hD hS => ?_)
                refine lv_iconst (v := 1) hx hb dX6_reads_205 (by decide) ?_
                exact rw_zret _ hx hb hr (rfl) hP hD hS (Eq.trans (if_neg c32) (Eq.trans (if_pos c41) (Eq.trans (if_neg c89) (Eq.trans (if_pos c106) (Eq.trans (if_neg c133) (Eq.trans (if_neg c177) (Eq.trans (if_pos c190) (rfl)))))))) dX6_reads_206 hlocks
              · refine lv_iconst (v := 0) hx hb dX6_reads_193 (by decide) ?_
                exact rw_zret _ hx hb hr (rfl) hP hD hS (Eq.trans (if_neg c32) (Eq.trans (if_pos c41) (Eq.trans (if_neg c89) (Eq.trans (if_pos c106) (Eq.trans (if_neg c133) (Eq.trans (if_neg c177) (Eq.trans (if_neg c190) (rfl)))))))) dX6_reads_194 hlocks
          · refine lv_iconst (v := 1) hx hb dX6_reads_136 (by decide) ?_
            refine lv_goto (tgt := 141) hx hb dX6_reads_137 (by decide) ?_
            refine lv_istore_n (lv' := [(3, .int _), (2, .int _), (0, .ref _), (1, .int _)]) hx hb dX6_reads_141 rfl hl (by decide) rfl (fun ls hl => ?_)
            refine lv_aload_n hx hb dX6_reads_142 rfl (lv_at hl 2 rfl) ?_
            refine lv_dup hx hb dX6_reads_143 rfl ?_
            refine va_get (D := D) (ci := 5) (C := RX6) (T := TX6) (N := 17) hx hb hts hi6 hown hK hP 0 md_0 rfl 11 (by decide) wd2 (fun _ h9 => h9) rfl dX6_reads_144 ?_
            refine lv_iconst (v := 1) hx hb dX6_reads_147 (by decide) ?_
            refine lv_iadd hx hb dX6_reads_148 ?_
            refine my_put (D := D) (ci := 5) (C := RX6) (T := TX6) (N := 17) (ty := .int) hx hb hts hi6 tyX6 tyX6_ok nmX6 hown hK hP hD hS 0 md_0 rfl 11 (by decide) wd2 (fun _ h9 => h9) rfl (by decide +kernel) rfl rfl (Nat.le_of_ble_eq_true rfl) (md_f11 _) dX6_reads_149 (fun H locs hP hD hS => ?_)
            refine lv_aload_n hx hb dX6_reads_152 rfl (lv_at hl 2 rfl) ?_
            refine lv_iload_n hx hb dX6_reads_153 rfl (lv_at hl 0 rfl) ?_
            refine lv_if_eq (tgt := 164) hx hb dX6_reads_154 (by decide) (fun c9 => absurd c9 (by decide)) (fun _ => ?_)
            refine lv_aload_n hx hb dX6_reads_157 rfl (lv_at hl 2 rfl) ?_
            refine rwV CF (c_X6_number l D cI cC cW t _ _ _ _  (by first | (with_reducible (refine okT.lo (b := 61) ?_; (repeat (first | exact okT_s6 hty h0 h60 | refine okT_z7 ?_ | refine okT_z8 ?_ | refine okT_n61 ?_)); done)) | (with_reducible (refine okT.lo (b := 62) ?_; (repeat (first | refine okT_z7 ?_ | refine okT_z8 ?_ | refine okT_n62 ?_)); refine okT_i62 ?_; (repeat (first | exact okT_s6 hty h0 h60 | refine okT_z7 ?_ | refine okT_z8 ?_ | refine okT_n61 ?_)); done))) (by first | (with_reducible (refine okT.ty (b := 61) ?_; (repeat (first | exact okT_s6 hty h0 h60 | refine okT_z7 ?_ | refine okT_z8 ?_ | refine okT_n61 ?_)); done)) | (with_reducible (refine okT.ty (b := 62) ?_; (repeat (first | refine okT_z7 ?_ | refine okT_z8 ?_ | refine okT_n62 ?_)); refine okT_i62 ?_; (repeat (first | exact okT_s6 hty h0 h60 | refine okT_z7 ?_ | refine okT_z8 ?_ | refine okT_n61 ?_)); done)))) (cwV 0 hts gX6_reads_X6_number rfl rfl rfl (by decide +kernel) ⟨Nat.le_of_ble_eq_true rfl, Nat.le_of_ble_eq_true rfl⟩) hP hD hK hX hS hA 0 5 md_0 rfl rfl hl.1 rfl (Nat.le_of_ble_eq_true rfl) dX6_reads_158 ⟨Nat.zero_le _, Nat.zero_le _⟩ (fun H locs hP hD hS => ?_)
            refine lv_goto (tgt := 165) hx hb dX6_reads_161 (by decide) ?_
            refine my_put (D := D) (ci := 5) (C := RX6) (T := TX6) (N := 17) (ty := .int) hx hb hts hi6 tyX6 tyX6_ok nmX6 hown hK hP hD hS 0 md_0 rfl 14 (by decide) wd4 (fun _ h9 => h9) rfl (by decide +kernel) rfl rfl (Nat.le_of_ble_eq_true rfl) (md_f14 _) dX6_reads_165 (fun H locs hP hD hS => ?_)
            refine lv_iload_n hx hb dX6_reads_168 rfl (lv_at hl 1 rfl) ?_
            refine lv_if_eq (tgt := 180) hx hb dX6_reads_169 (by decide) (fun c9 => absurd c9 (by decide)) (fun _ => ?_)
            refine lv_aload_n hx hb dX6_reads_172 rfl (lv_at hl 2 rfl) ?_
            refine va_get (D := D) (ci := 5) (C := RX6) (T := TX6) (N := 17) hx hb hts hi6 hown hK hP 0 md_0 rfl 14 (by decide) wd4 (fun _ h9 => h9) rfl dX6_reads_173 ?_
            refine lv_iconst (v := -1) hx hb dX6_reads_176 (by decide) ?_
            refine lv_icmp_eq (tgt := 193) hx hb dX6_reads_177 (by decide) (fun c177 => ?_) (fun c177 => ?_)
            · refine lv_iconst (v := 0) hx hb dX6_reads_193 (by decide) ?_
              exact rw_zret _ hx hb hr (rfl) hP hD hS (Eq.trans (if_neg c32) (Eq.trans (if_pos c41) (Eq.trans (if_neg c89) (Eq.trans (if_pos c106) (Eq.trans (if_pos c133) (Eq.trans (if_pos c177) (rfl))))))) dX6_reads_194 hlocks
            · refine lv_aload_n hx hb dX6_reads_180 rfl (lv_at hl 2 rfl) ?_
              refine lv_aload_n hx hb dX6_reads_181 rfl (lv_at hl 2 rfl) ?_
              refine va_get (D := D) (ci := 5) (C := RX6) (T := TX6) (N := 17) hx hb hts hi6 hown hK hP 0 md_0 rfl 11 (by decide) wd2 (fun _ h9 => h9) rfl dX6_reads_182 ?_
              refine roV CF (c_X6_signAt l D cI cC cW t _ _ _ _ (by first | (with_reducible (refine okT.lo (b := 61) ?_; (repeat (first | exact okT_s6 hty h0 h60 | refine okT_z7 ?_ | refine okT_z8 ?_ | refine okT_n61 ?_)); done)) | (with_reducible (refine okT.lo (b := 62) ?_; (repeat (first | refine okT_z7 ?_ | refine okT_z8 ?_ | refine okT_n62 ?_)); refine okT_i62 ?_; (repeat (first | exact okT_s6 hty h0 h60 | refine okT_z7 ?_ | refine okT_z8 ?_ | refine okT_n61 ?_)); done))) (by first | (with_reducible (refine okT.ty (b := 61) ?_; (repeat (first | exact okT_s6 hty h0 h60 | refine okT_z7 ?_ | refine okT_z8 ?_ | refine okT_n61 ?_)); done)) | (with_reducible (refine okT.ty (b := 62) ?_; (repeat (first | refine okT_z7 ?_ | refine okT_z8 ?_ | refine okT_n62 ?_)); refine okT_i62 ?_; (repeat (first | exact okT_s6 hty h0 h60 | refine okT_z7 ?_ | refine okT_z8 ?_ | refine okT_n61 ?_)); done)))) (cwV 1 hts gX6_reads_X6_signAt rfl rfl rfl (by decide +kernel) ⟨Nat.le_of_ble_eq_true rfl, Nat.le_of_ble_eq_true rfl⟩) hP hK hX hS 0 5 md_0 rfl rfl hl.1 rfl (Nat.le_of_ble_eq_true rfl) dX6_reads_185 ⟨Nat.zero_le _, Nat.zero_le _⟩ ?_
              refine lv_bipush (v := 59) hx hb dX6_reads_188 (by decide) ?_
              refine lv_icmp_eq (tgt := 195) hx hb dX6_reads_190 (by decide) (fun c190 => ?_) (fun c190 => ?_)
              · refine lv_aload_n hx hb dX6_reads_195 rfl (lv_at hl 2 rfl) ?_
                refine lv_dup hx hb dX6_reads_196 rfl ?_
                refine va_get (D := D) (ci := 5) (C := RX6) (T := TX6) (N := 17) hx hb hts hi6 hown hK hP 0 md_0 rfl 11 (by decide) wd2 (fun _ h9 => h9) rfl dX6_reads_197 ?_
                refine lv_iconst (v := 1) hx hb dX6_reads_200 (by decide) ?_
                refine lv_iadd hx hb dX6_reads_201 ?_
                refine my_put (D := D) (ci := 5) (C := RX6) (T := TX6) (N := 17) (ty := .int) hx hb hts hi6 tyX6 tyX6_ok nmX6 hown hK hP hD hS 0 md_0 rfl 11 (by decide) wd2 (fun _ h9 => h9) rfl (by decide +kernel) rfl rfl (Nat.le_of_ble_eq_true rfl) (md_f11 _) dX6_reads_202 (fun H locs hP hD hS => ?_)
                refine lv_iconst (v := 1) hx hb dX6_reads_205 (by decide) ?_
                exact rw_zret _ hx hb hr (rfl) hP hD hS (Eq.trans (if_neg c32) (Eq.trans (if_pos c41) (Eq.trans (if_neg c89) (Eq.trans (if_pos c106) (Eq.trans (if_pos c133) (Eq.trans (if_neg c177) (Eq.trans (if_pos c190) (rfl)))))))) dX6_reads_206 hlocks
              · refine lv_iconst (v := 0) hx hb dX6_reads_193 (by decide) ?_
                exact rw_zret _ hx hb hr (rfl) hP hD hS (Eq.trans (if_neg c32) (Eq.trans (if_pos c41) (Eq.trans (if_neg c89) (Eq.trans (if_pos c106) (Eq.trans (if_pos c133) (Eq.trans (if_neg c177) (Eq.trans (if_neg c190) (rfl)))))))) dX6_reads_194 hlocks
        · refine lv_aload_n hx hb dX6_reads_109 rfl (lv_at hl 1 rfl) ?_
          refine va_get (D := D) (ci := 5) (C := RX6) (T := TX6) (N := 17) hx hb hts hi6 hown hK hP 0 md_0 rfl 13 (by decide) wd3 (fun _ h9 => h9) rfl dX6_reads_110 ?_
          refine lv_iconst (v := -1) hx hb dX6_reads_113 (by decide) ?_
          refine lv_icmp_ne (tgt := 119) hx hb dX6_reads_114 (by decide) (fun c114 => ?_) (fun c114 => ?_)
          · refine lv_iload_n hx hb dX6_reads_119 rfl (lv_at hl 0 rfl) ?_
            refine lv_if_eq (tgt := 168) hx hb dX6_reads_120 (by decide) (fun c9 => absurd c9 (by decide)) (fun _ => ?_)
            refine lv_aload_n hx hb dX6_reads_123 rfl (lv_at hl 1 rfl) ?_
            refine lv_aload_n hx hb dX6_reads_124 rfl (lv_at hl 1 rfl) ?_
            refine va_get (D := D) (ci := 5) (C := RX6) (T := TX6) (N := 17) hx hb hts hi6 hown hK hP 0 md_0 rfl 11 (by decide) wd2 (fun _ h9 => h9) rfl dX6_reads_125 ?_
            refine roV CF (c_X6_signAt l D cI cC cW t _ _ _ _ (by first | (with_reducible (refine okT.lo (b := 61) ?_; (repeat (first | exact okT_s6 hty h0 h60 | refine okT_z7 ?_ | refine okT_z8 ?_ | refine okT_n61 ?_)); done)) | (with_reducible (refine okT.lo (b := 62) ?_; (repeat (first | refine okT_z7 ?_ | refine okT_z8 ?_ | refine okT_n62 ?_)); refine okT_i62 ?_; (repeat (first | exact okT_s6 hty h0 h60 | refine okT_z7 ?_ | refine okT_z8 ?_ | refine okT_n61 ?_)); done))) (by first | (with_reducible (refine okT.ty (b := 61) ?_; (repeat (first | exact okT_s6 hty h0 h60 | refine okT_z7 ?_ | refine okT_z8 ?_ | refine okT_n61 ?_)); done)) | (with_reducible (refine okT.ty (b := 62) ?_; (repeat (first | refine okT_z7 ?_ | refine okT_z8 ?_ | refine okT_n62 ?_)); refine okT_i62 ?_; (repeat (first | exact okT_s6 hty h0 h60 | refine okT_z7 ?_ | refine okT_z8 ?_ | refine okT_n61 ?_)); done)))) (cwV 1 hts gX6_reads_X6_signAt rfl rfl rfl (by decide +kernel) ⟨Nat.le_of_ble_eq_true rfl, Nat.le_of_ble_eq_true rfl⟩) hP hK hX hS 0 5 md_0 rfl rfl hl.1 rfl (Nat.le_of_ble_eq_true rfl) dX6_reads_128 ⟨Nat.zero_le _, Nat.zero_le _⟩ ?_
            refine lv_bipush (v := 44) hx hb dX6_reads_131 (by decide) ?_
            refine lv_icmp_ne (tgt := 140) hx hb dX6_reads_133 (by decide) (fun c133 => ?_) (fun c133 => ?_)
            · refine lv_iconst (v := 0) hx hb dX6_reads_140 (by decide) ?_
              refine lv_istore_n (lv' := [(3, .int _), (2, .int _), (0, .ref _), (1, .int _)]) hx hb dX6_reads_141 rfl hl (by decide) rfl (fun ls hl => ?_)
              refine lv_aload_n hx hb dX6_reads_142 rfl (lv_at hl 2 rfl) ?_
              refine lv_dup hx hb dX6_reads_143 rfl ?_
              refine va_get (D := D) (ci := 5) (C := RX6) (T := TX6) (N := 17) hx hb hts hi6 hown hK hP 0 md_0 rfl 11 (by decide) wd2 (fun _ h9 => h9) rfl dX6_reads_144 ?_
              refine lv_iconst (v := 1) hx hb dX6_reads_147 (by decide) ?_
              refine lv_iadd hx hb dX6_reads_148 ?_
              refine my_put (D := D) (ci := 5) (C := RX6) (T := TX6) (N := 17) (ty := .int) hx hb hts hi6 tyX6 tyX6_ok nmX6 hown hK hP hD hS 0 md_0 rfl 11 (by decide) wd2 (fun _ h9 => h9) rfl (by decide +kernel) rfl rfl (Nat.le_of_ble_eq_true rfl) (md_f11 _) dX6_reads_149 (fun H locs hP hD hS => ?_)
              refine lv_aload_n hx hb dX6_reads_152 rfl (lv_at hl 2 rfl) ?_
              refine lv_iload_n hx hb dX6_reads_153 rfl (lv_at hl 0 rfl) ?_
              refine lv_if_eq (tgt := 164) hx hb dX6_reads_154 (by decide) (fun _ => ?_) (fun c9 => absurd (by decide) c9)
              refine lv_iconst (v := -1) hx hb dX6_reads_164 (by decide) ?_
              refine my_put (D := D) (ci := 5) (C := RX6) (T := TX6) (N := 17) (ty := .int) hx hb hts hi6 tyX6 tyX6_ok nmX6 hown hK hP hD hS 0 md_0 rfl 14 (by decide) wd4 (fun _ h9 => h9) rfl (by decide +kernel) rfl rfl (Nat.le_of_ble_eq_true rfl) (md_f14 _) dX6_reads_165 (fun H locs hP hD hS => ?_)
              refine lv_iload_n hx hb dX6_reads_168 rfl (lv_at hl 1 rfl) ?_
              refine lv_if_eq (tgt := 180) hx hb dX6_reads_169 (by decide) (fun c9 => absurd c9 (by decide)) (fun _ => ?_)
              refine lv_aload_n hx hb dX6_reads_172 rfl (lv_at hl 2 rfl) ?_
              refine va_get (D := D) (ci := 5) (C := RX6) (T := TX6) (N := 17) hx hb hts hi6 hown hK hP 0 md_0 rfl 14 (by decide) wd4 (fun _ h9 => h9) rfl dX6_reads_173 ?_
              refine lv_iconst (v := -1) hx hb dX6_reads_176 (by decide) ?_
              refine lv_icmp_eq (tgt := 193) hx hb dX6_reads_177 (by decide) (fun c177 => ?_) (fun c177 => ?_)
              · refine lv_iconst (v := 0) hx hb dX6_reads_193 (by decide) ?_
                exact rw_zret _ hx hb hr (rfl) hP hD hS (Eq.trans (if_neg c32) (Eq.trans (if_pos c41) (Eq.trans (if_neg c89) (Eq.trans (if_neg c106) (Eq.trans (if_neg c114) (Eq.trans (if_neg c133) (Eq.trans (if_pos c177) (rfl)))))))) dX6_reads_194 hlocks
              · refine lv_aload_n hx hb dX6_reads_180 rfl (lv_at hl 2 rfl) ?_
                refine lv_aload_n hx hb dX6_reads_181 rfl (lv_at hl 2 rfl) ?_
                refine va_get (D := D) (ci := 5) (C := RX6) (T := TX6) (N := 17) hx hb hts hi6 hown hK hP 0 md_0 rfl 11 (by decide) wd2 (fun _ h9 => h9) rfl dX6_reads_182 ?_
                refine roV CF (c_X6_signAt l D cI cC cW t _ _ _ _ (by first | (with_reducible (refine okT.lo (b := 61) ?_; (repeat (first | exact okT_s6 hty h0 h60 | refine okT_z7 ?_ | refine okT_z8 ?_ | refine okT_n61 ?_)); done)) | (with_reducible (refine okT.lo (b := 62) ?_; (repeat (first | refine okT_z7 ?_ | refine okT_z8 ?_ | refine okT_n62 ?_)); refine okT_i62 ?_; (repeat (first | exact okT_s6 hty h0 h60 | refine okT_z7 ?_ | refine okT_z8 ?_ | refine okT_n61 ?_)); done))) (by first | (with_reducible (refine okT.ty (b := 61) ?_; (repeat (first | exact okT_s6 hty h0 h60 | refine okT_z7 ?_ | refine okT_z8 ?_ | refine okT_n61 ?_)); done)) | (with_reducible (refine okT.ty (b := 62) ?_; (repeat (first | refine okT_z7 ?_ | refine okT_z8 ?_ | refine okT_n62 ?_)); refine okT_i62 ?_; (repeat (first | exact okT_s6 hty h0 h60 | refine okT_z7 ?_ | refine okT_z8 ?_ | refine okT_n61 ?_)); done)))) (cwV 1 hts gX6_reads_X6_signAt rfl rfl rfl (by decide +kernel) ⟨Nat.le_of_ble_eq_true rfl, Nat.le_of_ble_eq_true rfl⟩) hP hK hX hS 0 5 md_0 rfl rfl hl.1 rfl (Nat.le_of_ble_eq_true rfl) dX6_reads_185 ⟨Nat.zero_le _, Nat.zero_le _⟩ ?_
                refine lv_bipush (v := 59) hx hb dX6_reads_188 (by decide) ?_
                refine lv_icmp_eq (tgt := 195) hx hb dX6_reads_190 (by decide) (fun c190 => ?_) (fun c190 => ?_)
                · refine lv_aload_n hx hb dX6_reads_195 rfl (lv_at hl 2 rfl) ?_
                  refine lv_dup hx hb dX6_reads_196 rfl ?_
                  refine va_get (D := D) (ci := 5) (C := RX6) (T := TX6) (N := 17) hx hb hts hi6 hown hK hP 0 md_0 rfl 11 (by decide) wd2 (fun _ h9 => h9) rfl dX6_reads_197 ?_
                  refine lv_iconst (v := 1) hx hb dX6_reads_200 (by decide) ?_
                  refine lv_iadd hx hb dX6_reads_201 ?_
                  refine my_put (D := D) (ci := 5) (C := RX6) (T := TX6) (N := 17) (ty := .int) hx hb hts hi6 tyX6 tyX6_ok nmX6 hown hK hP hD hS 0 md_0 rfl 11 (by decide) wd2 (fun _ h9 => h9) rfl (by decide +kernel) rfl rfl (Nat.le_of_ble_eq_true rfl) (md_f11 _) dX6_reads_202 (fun H locs hP hD hS => ?_)
                  refine lv_iconst (v := 1) hx hb dX6_reads_205 (by decide) ?_
                  exact rw_zret _ hx hb hr (rfl) hP hD hS (Eq.trans (if_neg c32) (Eq.trans (if_pos c41) (Eq.trans (if_neg c89) (Eq.trans (if_neg c106) (Eq.trans (if_neg c114) (Eq.trans (if_neg c133) (Eq.trans (if_neg c177) (Eq.trans (if_pos c190) (rfl))))))))) dX6_reads_206 hlocks
                · refine lv_iconst (v := 0) hx hb dX6_reads_193 (by decide) ?_
                  exact rw_zret _ hx hb hr (rfl) hP hD hS (Eq.trans (if_neg c32) (Eq.trans (if_pos c41) (Eq.trans (if_neg c89) (Eq.trans (if_neg c106) (Eq.trans (if_neg c114) (Eq.trans (if_neg c133) (Eq.trans (if_neg c177) (Eq.trans (if_neg c190) (rfl))))))))) dX6_reads_194 hlocks
            · refine lv_iconst (v := 1) hx hb dX6_reads_136 (by decide) ?_
              refine lv_goto (tgt := 141) hx hb dX6_reads_137 (by decide) ?_
              refine lv_istore_n (lv' := [(3, .int _), (2, .int _), (0, .ref _), (1, .int _)]) hx hb dX6_reads_141 rfl hl (by decide) rfl (fun ls hl => ?_)
              refine lv_aload_n hx hb dX6_reads_142 rfl (lv_at hl 2 rfl) ?_
              refine lv_dup hx hb dX6_reads_143 rfl ?_
              refine va_get (D := D) (ci := 5) (C := RX6) (T := TX6) (N := 17) hx hb hts hi6 hown hK hP 0 md_0 rfl 11 (by decide) wd2 (fun _ h9 => h9) rfl dX6_reads_144 ?_
              refine lv_iconst (v := 1) hx hb dX6_reads_147 (by decide) ?_
              refine lv_iadd hx hb dX6_reads_148 ?_
              refine my_put (D := D) (ci := 5) (C := RX6) (T := TX6) (N := 17) (ty := .int) hx hb hts hi6 tyX6 tyX6_ok nmX6 hown hK hP hD hS 0 md_0 rfl 11 (by decide) wd2 (fun _ h9 => h9) rfl (by decide +kernel) rfl rfl (Nat.le_of_ble_eq_true rfl) (md_f11 _) dX6_reads_149 (fun H locs hP hD hS => ?_)
              refine lv_aload_n hx hb dX6_reads_152 rfl (lv_at hl 2 rfl) ?_
              refine lv_iload_n hx hb dX6_reads_153 rfl (lv_at hl 0 rfl) ?_
              refine lv_if_eq (tgt := 164) hx hb dX6_reads_154 (by decide) (fun c9 => absurd c9 (by decide)) (fun _ => ?_)
              refine lv_aload_n hx hb dX6_reads_157 rfl (lv_at hl 2 rfl) ?_
              refine rwV CF (c_X6_number l D cI cC cW t _ _ _ _  (by first | (with_reducible (refine okT.lo (b := 61) ?_; (repeat (first | exact okT_s6 hty h0 h60 | refine okT_z7 ?_ | refine okT_z8 ?_ | refine okT_n61 ?_)); done)) | (with_reducible (refine okT.lo (b := 62) ?_; (repeat (first | refine okT_z7 ?_ | refine okT_z8 ?_ | refine okT_n62 ?_)); refine okT_i62 ?_; (repeat (first | exact okT_s6 hty h0 h60 | refine okT_z7 ?_ | refine okT_z8 ?_ | refine okT_n61 ?_)); done))) (by first | (with_reducible (refine okT.ty (b := 61) ?_; (repeat (first | exact okT_s6 hty h0 h60 | refine okT_z7 ?_ | refine okT_z8 ?_ | refine okT_n61 ?_)); done)) | (with_reducible (refine okT.ty (b := 62) ?_; (repeat (first | refine okT_z7 ?_ | refine okT_z8 ?_ | refine okT_n62 ?_)); refine okT_i62 ?_; (repeat (first | exact okT_s6 hty h0 h60 | refine okT_z7 ?_ | refine okT_z8 ?_ | refine okT_n61 ?_)); done)))) (cwV 0 hts gX6_reads_X6_number rfl rfl rfl (by decide +kernel) ⟨Nat.le_of_ble_eq_true rfl, Nat.le_of_ble_eq_true rfl⟩) hP hD hK hX hS hA 0 5 md_0 rfl rfl hl.1 rfl (Nat.le_of_ble_eq_true rfl) dX6_reads_158 ⟨Nat.zero_le _, Nat.zero_le _⟩ (fun H locs hP hD hS => ?_)
              refine lv_goto (tgt := 165) hx hb dX6_reads_161 (by decide) ?_
              refine my_put (D := D) (ci := 5) (C := RX6) (T := TX6) (N := 17) (ty := .int) hx hb hts hi6 tyX6 tyX6_ok nmX6 hown hK hP hD hS 0 md_0 rfl 14 (by decide) wd4 (fun _ h9 => h9) rfl (by decide +kernel) rfl rfl (Nat.le_of_ble_eq_true rfl) (md_f14 _) dX6_reads_165 (fun H locs hP hD hS => ?_)
              refine lv_iload_n hx hb dX6_reads_168 rfl (lv_at hl 1 rfl) ?_
              refine lv_if_eq (tgt := 180) hx hb dX6_reads_169 (by decide) (fun c9 => absurd c9 (by decide)) (fun _ => ?_)
              refine lv_aload_n hx hb dX6_reads_172 rfl (lv_at hl 2 rfl) ?_
              refine va_get (D := D) (ci := 5) (C := RX6) (T := TX6) (N := 17) hx hb hts hi6 hown hK hP 0 md_0 rfl 14 (by decide) wd4 (fun _ h9 => h9) rfl dX6_reads_173 ?_
              refine lv_iconst (v := -1) hx hb dX6_reads_176 (by decide) ?_
              refine lv_icmp_eq (tgt := 193) hx hb dX6_reads_177 (by decide) (fun c177 => ?_) (fun c177 => ?_)
              · refine lv_iconst (v := 0) hx hb dX6_reads_193 (by decide) ?_
                exact rw_zret _ hx hb hr (rfl) hP hD hS (Eq.trans (if_neg c32) (Eq.trans (if_pos c41) (Eq.trans (if_neg c89) (Eq.trans (if_neg c106) (Eq.trans (if_neg c114) (Eq.trans (if_pos c133) (Eq.trans (if_pos c177) (rfl)))))))) dX6_reads_194 hlocks
              · refine lv_aload_n hx hb dX6_reads_180 rfl (lv_at hl 2 rfl) ?_
                refine lv_aload_n hx hb dX6_reads_181 rfl (lv_at hl 2 rfl) ?_
                refine va_get (D := D) (ci := 5) (C := RX6) (T := TX6) (N := 17) hx hb hts hi6 hown hK hP 0 md_0 rfl 11 (by decide) wd2 (fun _ h9 => h9) rfl dX6_reads_182 ?_
                refine roV CF (c_X6_signAt l D cI cC cW t _ _ _ _ (by first | (with_reducible (refine okT.lo (b := 61) ?_; (repeat (first | exact okT_s6 hty h0 h60 | refine okT_z7 ?_ | refine okT_z8 ?_ | refine okT_n61 ?_)); done)) | (with_reducible (refine okT.lo (b := 62) ?_; (repeat (first | refine okT_z7 ?_ | refine okT_z8 ?_ | refine okT_n62 ?_)); refine okT_i62 ?_; (repeat (first | exact okT_s6 hty h0 h60 | refine okT_z7 ?_ | refine okT_z8 ?_ | refine okT_n61 ?_)); done))) (by first | (with_reducible (refine okT.ty (b := 61) ?_; (repeat (first | exact okT_s6 hty h0 h60 | refine okT_z7 ?_ | refine okT_z8 ?_ | refine okT_n61 ?_)); done)) | (with_reducible (refine okT.ty (b := 62) ?_; (repeat (first | refine okT_z7 ?_ | refine okT_z8 ?_ | refine okT_n62 ?_)); refine okT_i62 ?_; (repeat (first | exact okT_s6 hty h0 h60 | refine okT_z7 ?_ | refine okT_z8 ?_ | refine okT_n61 ?_)); done)))) (cwV 1 hts gX6_reads_X6_signAt rfl rfl rfl (by decide +kernel) ⟨Nat.le_of_ble_eq_true rfl, Nat.le_of_ble_eq_true rfl⟩) hP hK hX hS 0 5 md_0 rfl rfl hl.1 rfl (Nat.le_of_ble_eq_true rfl) dX6_reads_185 ⟨Nat.zero_le _, Nat.zero_le _⟩ ?_
                refine lv_bipush (v := 59) hx hb dX6_reads_188 (by decide) ?_
                refine lv_icmp_eq (tgt := 195) hx hb dX6_reads_190 (by decide) (fun c190 => ?_) (fun c190 => ?_)
                · refine lv_aload_n hx hb dX6_reads_195 rfl (lv_at hl 2 rfl) ?_
                  refine lv_dup hx hb dX6_reads_196 rfl ?_
                  refine va_get (D := D) (ci := 5) (C := RX6) (T := TX6) (N := 17) hx hb hts hi6 hown hK hP 0 md_0 rfl 11 (by decide) wd2 (fun _ h9 => h9) rfl dX6_reads_197 ?_
                  refine lv_iconst (v := 1) hx hb dX6_reads_200 (by decide) ?_
                  refine lv_iadd hx hb dX6_reads_201 ?_
                  refine my_put (D := D) (ci := 5) (C := RX6) (T := TX6) (N := 17) (ty := .int) hx hb hts hi6 tyX6 tyX6_ok nmX6 hown hK hP hD hS 0 md_0 rfl 11 (by decide) wd2 (fun _ h9 => h9) rfl (by decide +kernel) rfl rfl (Nat.le_of_ble_eq_true rfl) (md_f11 _) dX6_reads_202 (fun H locs hP hD hS => ?_)
                  refine lv_iconst (v := 1) hx hb dX6_reads_205 (by decide) ?_
                  exact rw_zret _ hx hb hr (rfl) hP hD hS (Eq.trans (if_neg c32) (Eq.trans (if_pos c41) (Eq.trans (if_neg c89) (Eq.trans (if_neg c106) (Eq.trans (if_neg c114) (Eq.trans (if_pos c133) (Eq.trans (if_neg c177) (Eq.trans (if_pos c190) (rfl))))))))) dX6_reads_206 hlocks
                · refine lv_iconst (v := 0) hx hb dX6_reads_193 (by decide) ?_
                  exact rw_zret _ hx hb hr (rfl) hP hD hS (Eq.trans (if_neg c32) (Eq.trans (if_pos c41) (Eq.trans (if_neg c89) (Eq.trans (if_neg c106) (Eq.trans (if_neg c114) (Eq.trans (if_pos c133) (Eq.trans (if_neg c177) (Eq.trans (if_neg c190) (rfl))))))))) dX6_reads_194 hlocks
          · refine lv_iconst (v := 0) hx hb dX6_reads_117 (by decide) ?_
            exact rw_zret _ hx hb hr (rfl) hP hD hS (Eq.trans (if_neg c32) (Eq.trans (if_pos c41) (Eq.trans (if_neg c89) (Eq.trans (if_neg c106) (Eq.trans (if_pos c114) (rfl)))))) dX6_reads_118 hlocks
    · refine lv_aload_n hx hb dX6_reads_44 rfl (lv_at hl 0 rfl) ?_
      refine va_get (D := D) (ci := 5) (C := RX6) (T := TX6) (N := 17) hx hb hts hi6 hown hK hP 0 md_0 rfl 12 (by decide) wd1 (fun _ h9 => h9) rfl dX6_reads_45 ?_
      refine lv_bipush (v := 120) hx hb dX6_reads_48 (by decide) ?_
      refine lv_icmp_ne (tgt := 57) hx hb dX6_reads_50 (by decide) (fun c50 => ?_) (fun c50 => ?_)
      · refine lv_iconst (v := 0) hx hb dX6_reads_57 (by decide) ?_
        refine lv_istore_n (lv' := [(2, .int _), (0, .ref _), (1, .int _)]) hx hb dX6_reads_58 rfl hl (by decide) rfl (fun ls hl => ?_)
        refine lv_iload_n hx hb dX6_reads_59 rfl (lv_at hl 0 rfl) ?_
        refine lv_if_ne (tgt := 83) hx hb dX6_reads_60 (by decide) (fun c9 => absurd (by decide) c9) (fun _ => ?_)
        refine lv_aload_n hx hb dX6_reads_63 rfl (lv_at hl 1 rfl) ?_
        refine va_get (D := D) (ci := 5) (C := RX6) (T := TX6) (N := 17) hx hb hts hi6 hown hK hP 0 md_0 rfl 12 (by decide) wd1 (fun _ h9 => h9) rfl dX6_reads_64 ?_
        refine lv_bipush (v := 114) hx hb dX6_reads_67 (by decide) ?_
        refine lv_icmp_eq (tgt := 83) hx hb dX6_reads_69 (by decide) (fun c69 => ?_) (fun c69 => ?_)
        · refine lv_aload_n hx hb dX6_reads_83 rfl (lv_at hl 1 rfl) ?_
          refine va_get (D := D) (ci := 5) (C := RX6) (T := TX6) (N := 17) hx hb hts hi6 hown hK hP 0 md_0 rfl 12 (by decide) wd1 (fun _ h9 => h9) rfl dX6_reads_84 ?_
          refine lv_bipush (v := 119) hx hb dX6_reads_87 (by decide) ?_
          refine lv_icmp_eq (tgt := 100) hx hb dX6_reads_89 (by decide) (fun c89 => ?_) (fun c89 => ?_)
          · refine lv_aload_n hx hb dX6_reads_100 rfl (lv_at hl 1 rfl) ?_
            refine va_get (D := D) (ci := 5) (C := RX6) (T := TX6) (N := 17) hx hb hts hi6 hown hK hP 0 md_0 rfl 12 (by decide) wd1 (fun _ h9 => h9) rfl dX6_reads_101 ?_
            refine lv_bipush (v := 119) hx hb dX6_reads_104 (by decide) ?_
            refine lv_icmp_eq (tgt := 119) hx hb dX6_reads_106 (by decide) (fun c106 => ?_) (fun c106 => ?_)
            · refine lv_iload_n hx hb dX6_reads_119 rfl (lv_at hl 0 rfl) ?_
              refine lv_if_eq (tgt := 168) hx hb dX6_reads_120 (by decide) (fun _ => ?_) (fun c9 => absurd (by decide) c9)
              refine lv_iload_n hx hb dX6_reads_168 rfl (lv_at hl 0 rfl) ?_
              refine lv_if_eq (tgt := 180) hx hb dX6_reads_169 (by decide) (fun _ => ?_) (fun c9 => absurd (by decide) c9)
              refine lv_aload_n hx hb dX6_reads_180 rfl (lv_at hl 1 rfl) ?_
              refine lv_aload_n hx hb dX6_reads_181 rfl (lv_at hl 1 rfl) ?_
              refine va_get (D := D) (ci := 5) (C := RX6) (T := TX6) (N := 17) hx hb hts hi6 hown hK hP 0 md_0 rfl 11 (by decide) wd2 (fun _ h9 => h9) rfl dX6_reads_182 ?_
              refine roV CF (c_X6_signAt l D cI cC cW t _ _ _ _ (by first | (with_reducible (refine okT.lo (b := 61) ?_; (repeat (first | exact okT_s6 hty h0 h60 | refine okT_z7 ?_ | refine okT_z8 ?_ | refine okT_n61 ?_)); done)) | (with_reducible (refine okT.lo (b := 62) ?_; (repeat (first | refine okT_z7 ?_ | refine okT_z8 ?_ | refine okT_n62 ?_)); refine okT_i62 ?_; (repeat (first | exact okT_s6 hty h0 h60 | refine okT_z7 ?_ | refine okT_z8 ?_ | refine okT_n61 ?_)); done))) (by first | (with_reducible (refine okT.ty (b := 61) ?_; (repeat (first | exact okT_s6 hty h0 h60 | refine okT_z7 ?_ | refine okT_z8 ?_ | refine okT_n61 ?_)); done)) | (with_reducible (refine okT.ty (b := 62) ?_; (repeat (first | refine okT_z7 ?_ | refine okT_z8 ?_ | refine okT_n62 ?_)); refine okT_i62 ?_; (repeat (first | exact okT_s6 hty h0 h60 | refine okT_z7 ?_ | refine okT_z8 ?_ | refine okT_n61 ?_)); done)))) (cwV 1 hts gX6_reads_X6_signAt rfl rfl rfl (by decide +kernel) ⟨Nat.le_of_ble_eq_true rfl, Nat.le_of_ble_eq_true rfl⟩) hP hK hX hS 0 5 md_0 rfl rfl hl.1 rfl (Nat.le_of_ble_eq_true rfl) dX6_reads_185 ⟨Nat.zero_le _, Nat.zero_le _⟩ ?_
              refine lv_bipush (v := 59) hx hb dX6_reads_188 (by decide) ?_
              refine lv_icmp_eq (tgt := 195) hx hb dX6_reads_190 (by decide) (fun c190 => ?_) (fun c190 => ?_)
              · refine lv_aload_n hx hb dX6_reads_195 rfl (lv_at hl 1 rfl) ?_
                refine lv_dup hx hb dX6_reads_196 rfl ?_
                refine va_get (D := D) (ci := 5) (C := RX6) (T := TX6) (N := 17) hx hb hts hi6 hown hK hP 0 md_0 rfl 11 (by decide) wd2 (fun _ h9 => h9) rfl dX6_reads_197 ?_
                refine lv_iconst (v := 1) hx hb dX6_reads_200 (by decide) ?_
                refine lv_iadd hx hb dX6_reads_201 ?_
                refine my_put (D := D) (ci := 5) (C := RX6) (T := TX6) (N := 17) (ty := .int) hx hb hts hi6 tyX6 tyX6_ok nmX6 hown hK hP hD hS 0 md_0 rfl 11 (by decide) wd2 (fun _ h9 => h9) rfl (by decide +kernel) rfl rfl (Nat.le_of_ble_eq_true rfl) (md_f11 _) dX6_reads_202 (fun H locs hP hD hS => ?_)
                refine lv_iconst (v := 1) hx hb dX6_reads_205 (by decide) ?_
                exact rw_zret _ hx hb hr (rfl) hP hD hS (Eq.trans (if_neg c32) (Eq.trans (if_neg c41) (Eq.trans (if_neg c50) (Eq.trans (if_pos c69) (Eq.trans (if_pos c89) (Eq.trans (if_pos c106) (Eq.trans (if_pos c190) (rfl)))))))) dX6_reads_206 hlocks
              · refine lv_iconst (v := 0) hx hb dX6_reads_193 (by decide) ?_
                exact rw_zret _ hx hb hr (rfl) hP hD hS (Eq.trans (if_neg c32) (Eq.trans (if_neg c41) (Eq.trans (if_neg c50) (Eq.trans (if_pos c69) (Eq.trans (if_pos c89) (Eq.trans (if_pos c106) (Eq.trans (if_neg c190) (rfl)))))))) dX6_reads_194 hlocks
            · refine lv_aload_n hx hb dX6_reads_109 rfl (lv_at hl 1 rfl) ?_
              refine va_get (D := D) (ci := 5) (C := RX6) (T := TX6) (N := 17) hx hb hts hi6 hown hK hP 0 md_0 rfl 13 (by decide) wd3 (fun _ h9 => h9) rfl dX6_reads_110 ?_
              refine lv_iconst (v := -1) hx hb dX6_reads_113 (by decide) ?_
              refine lv_icmp_ne (tgt := 119) hx hb dX6_reads_114 (by decide) (fun c114 => ?_) (fun c114 => ?_)
              · refine lv_iload_n hx hb dX6_reads_119 rfl (lv_at hl 0 rfl) ?_
                refine lv_if_eq (tgt := 168) hx hb dX6_reads_120 (by decide) (fun _ => ?_) (fun c9 => absurd (by decide) c9)
                refine lv_iload_n hx hb dX6_reads_168 rfl (lv_at hl 0 rfl) ?_
                refine lv_if_eq (tgt := 180) hx hb dX6_reads_169 (by decide) (fun _ => ?_) (fun c9 => absurd (by decide) c9)
                refine lv_aload_n hx hb dX6_reads_180 rfl (lv_at hl 1 rfl) ?_
                refine lv_aload_n hx hb dX6_reads_181 rfl (lv_at hl 1 rfl) ?_
                refine va_get (D := D) (ci := 5) (C := RX6) (T := TX6) (N := 17) hx hb hts hi6 hown hK hP 0 md_0 rfl 11 (by decide) wd2 (fun _ h9 => h9) rfl dX6_reads_182 ?_
                refine roV CF (c_X6_signAt l D cI cC cW t _ _ _ _ (by first | (with_reducible (refine okT.lo (b := 61) ?_; (repeat (first | exact okT_s6 hty h0 h60 | refine okT_z7 ?_ | refine okT_z8 ?_ | refine okT_n61 ?_)); done)) | (with_reducible (refine okT.lo (b := 62) ?_; (repeat (first | refine okT_z7 ?_ | refine okT_z8 ?_ | refine okT_n62 ?_)); refine okT_i62 ?_; (repeat (first | exact okT_s6 hty h0 h60 | refine okT_z7 ?_ | refine okT_z8 ?_ | refine okT_n61 ?_)); done))) (by first | (with_reducible (refine okT.ty (b := 61) ?_; (repeat (first | exact okT_s6 hty h0 h60 | refine okT_z7 ?_ | refine okT_z8 ?_ | refine okT_n61 ?_)); done)) | (with_reducible (refine okT.ty (b := 62) ?_; (repeat (first | refine okT_z7 ?_ | refine okT_z8 ?_ | refine okT_n62 ?_)); refine okT_i62 ?_; (repeat (first | exact okT_s6 hty h0 h60 | refine okT_z7 ?_ | refine okT_z8 ?_ | refine okT_n61 ?_)); done)))) (cwV 1 hts gX6_reads_X6_signAt rfl rfl rfl (by decide +kernel) ⟨Nat.le_of_ble_eq_true rfl, Nat.le_of_ble_eq_true rfl⟩) hP hK hX hS 0 5 md_0 rfl rfl hl.1 rfl (Nat.le_of_ble_eq_true rfl) dX6_reads_185 ⟨Nat.zero_le _, Nat.zero_le _⟩ ?_
                refine lv_bipush (v := 59) hx hb dX6_reads_188 (by decide) ?_
                refine lv_icmp_eq (tgt := 195) hx hb dX6_reads_190 (by decide) (fun c190 => ?_) (fun c190 => ?_)
                · refine lv_aload_n hx hb dX6_reads_195 rfl (lv_at hl 1 rfl) ?_
                  refine lv_dup hx hb dX6_reads_196 rfl ?_
                  refine va_get (D := D) (ci := 5) (C := RX6) (T := TX6) (N := 17) hx hb hts hi6 hown hK hP 0 md_0 rfl 11 (by decide) wd2 (fun _ h9 => h9) rfl dX6_reads_197 ?_
                  refine lv_iconst (v := 1) hx hb dX6_reads_200 (by decide) ?_
                  refine lv_iadd hx hb dX6_reads_201 ?_
                  refine my_put (D := D) (ci := 5) (C := RX6) (T := TX6) (N := 17) (ty := .int) hx hb hts hi6 tyX6 tyX6_ok nmX6 hown hK hP hD hS 0 md_0 rfl 11 (by decide) wd2 (fun _ h9 => h9) rfl (by decide +kernel) rfl rfl (Nat.le_of_ble_eq_true rfl) (md_f11 _) dX6_reads_202 (fun H locs hP hD hS => ?_)
                  refine lv_iconst (v := 1) hx hb dX6_reads_205 (by decide) ?_
                  exact rw_zret _ hx hb hr (rfl) hP hD hS (Eq.trans (if_neg c32) (Eq.trans (if_neg c41) (Eq.trans (if_neg c50) (Eq.trans (if_pos c69) (Eq.trans (if_pos c89) (Eq.trans (if_neg c106) (Eq.trans (if_neg c114) (Eq.trans (if_pos c190) (rfl))))))))) dX6_reads_206 hlocks
                · refine lv_iconst (v := 0) hx hb dX6_reads_193 (by decide) ?_
                  exact rw_zret _ hx hb hr (rfl) hP hD hS (Eq.trans (if_neg c32) (Eq.trans (if_neg c41) (Eq.trans (if_neg c50) (Eq.trans (if_pos c69) (Eq.trans (if_pos c89) (Eq.trans (if_neg c106) (Eq.trans (if_neg c114) (Eq.trans (if_neg c190) (rfl))))))))) dX6_reads_194 hlocks
              · refine lv_iconst (v := 0) hx hb dX6_reads_117 (by decide) ?_
                exact rw_zret _ hx hb hr (rfl) hP hD hS (Eq.trans (if_neg c32) (Eq.trans (if_neg c41) (Eq.trans (if_neg c50) (Eq.trans (if_pos c69) (Eq.trans (if_pos c89) (Eq.trans (if_neg c106) (Eq.trans (if_pos c114) (rfl)))))))) dX6_reads_118 hlocks
          · refine lv_aload_n hx hb dX6_reads_92 rfl (lv_at hl 1 rfl) ?_
            refine lv_aload_n hx hb dX6_reads_93 rfl (lv_at hl 1 rfl) ?_
            refine rwV CF (c_X6_number l D cI cC cW t _ _ _ _  (by first | (with_reducible (refine okT.lo (b := 61) ?_; (repeat (first | exact okT_s6 hty h0 h60 | refine okT_z7 ?_ | refine okT_z8 ?_ | refine okT_n61 ?_)); done)) | (with_reducible (refine okT.lo (b := 62) ?_; (repeat (first | refine okT_z7 ?_ | refine okT_z8 ?_ | refine okT_n62 ?_)); refine okT_i62 ?_; (repeat (first | exact okT_s6 hty h0 h60 | refine okT_z7 ?_ | refine okT_z8 ?_ | refine okT_n61 ?_)); done))) (by first | (with_reducible (refine okT.ty (b := 61) ?_; (repeat (first | exact okT_s6 hty h0 h60 | refine okT_z7 ?_ | refine okT_z8 ?_ | refine okT_n61 ?_)); done)) | (with_reducible (refine okT.ty (b := 62) ?_; (repeat (first | refine okT_z7 ?_ | refine okT_z8 ?_ | refine okT_n62 ?_)); refine okT_i62 ?_; (repeat (first | exact okT_s6 hty h0 h60 | refine okT_z7 ?_ | refine okT_z8 ?_ | refine okT_n61 ?_)); done)))) (cwV 0 hts gX6_reads_X6_number rfl rfl rfl (by decide +kernel) ⟨Nat.le_of_ble_eq_true rfl, Nat.le_of_ble_eq_true rfl⟩) hP hD hK hX hS hA 0 5 md_0 rfl rfl hl.1 rfl (Nat.le_of_ble_eq_true rfl) dX6_reads_94 ⟨Nat.zero_le _, Nat.zero_le _⟩ (fun H locs hP hD hS => ?_)
            refine my_put (D := D) (ci := 5) (C := RX6) (T := TX6) (N := 17) (ty := .int) hx hb hts hi6 tyX6 tyX6_ok nmX6 hown hK hP hD hS 0 md_0 rfl 13 (by decide) wd3 (fun _ h9 => h9) rfl (by decide +kernel) rfl rfl (Nat.le_of_ble_eq_true rfl) (md_f13 _) dX6_reads_97 (fun H locs hP hD hS => ?_)
            refine lv_aload_n hx hb dX6_reads_100 rfl (lv_at hl 1 rfl) ?_
            refine va_get (D := D) (ci := 5) (C := RX6) (T := TX6) (N := 17) hx hb hts hi6 hown hK hP 0 md_0 rfl 12 (by decide) wd1 (fun _ h9 => h9) rfl dX6_reads_101 ?_
            refine lv_bipush (v := 119) hx hb dX6_reads_104 (by decide) ?_
            refine lv_icmp_eq (tgt := 119) hx hb dX6_reads_106 (by decide) (fun c106 => ?_) (fun c106 => ?_)
            · refine lv_iload_n hx hb dX6_reads_119 rfl (lv_at hl 0 rfl) ?_
              refine lv_if_eq (tgt := 168) hx hb dX6_reads_120 (by decide) (fun _ => ?_) (fun c9 => absurd (by decide) c9)
              refine lv_iload_n hx hb dX6_reads_168 rfl (lv_at hl 0 rfl) ?_
              refine lv_if_eq (tgt := 180) hx hb dX6_reads_169 (by decide) (fun _ => ?_) (fun c9 => absurd (by decide) c9)
              refine lv_aload_n hx hb dX6_reads_180 rfl (lv_at hl 1 rfl) ?_
              refine lv_aload_n hx hb dX6_reads_181 rfl (lv_at hl 1 rfl) ?_
              refine va_get (D := D) (ci := 5) (C := RX6) (T := TX6) (N := 17) hx hb hts hi6 hown hK hP 0 md_0 rfl 11 (by decide) wd2 (fun _ h9 => h9) rfl dX6_reads_182 ?_
              refine roV CF (c_X6_signAt l D cI cC cW t _ _ _ _ (by first | (with_reducible (refine okT.lo (b := 61) ?_; (repeat (first | exact okT_s6 hty h0 h60 | refine okT_z7 ?_ | refine okT_z8 ?_ | refine okT_n61 ?_)); done)) | (with_reducible (refine okT.lo (b := 62) ?_; (repeat (first | refine okT_z7 ?_ | refine okT_z8 ?_ | refine okT_n62 ?_)); refine okT_i62 ?_; (repeat (first | exact okT_s6 hty h0 h60 | refine okT_z7 ?_ | refine okT_z8 ?_ | refine okT_n61 ?_)); done))) (by first | (with_reducible (refine okT.ty (b := 61) ?_; (repeat (first | exact okT_s6 hty h0 h60 | refine okT_z7 ?_ | refine okT_z8 ?_ | refine okT_n61 ?_)); done)) | (with_reducible (refine okT.ty (b := 62) ?_; (repeat (first | refine okT_z7 ?_ | refine okT_z8 ?_ | refine okT_n62 ?_)); refine okT_i62 ?_; (repeat (first | exact okT_s6 hty h0 h60 | refine okT_z7 ?_ | refine okT_z8 ?_ | refine okT_n61 ?_)); done)))) (cwV 1 hts gX6_reads_X6_signAt rfl rfl rfl (by decide +kernel) ⟨Nat.le_of_ble_eq_true rfl, Nat.le_of_ble_eq_true rfl⟩) hP hK hX hS 0 5 md_0 rfl rfl hl.1 rfl (Nat.le_of_ble_eq_true rfl) dX6_reads_185 ⟨Nat.zero_le _, Nat.zero_le _⟩ ?_
              refine lv_bipush (v := 59) hx hb dX6_reads_188 (by decide) ?_
              refine lv_icmp_eq (tgt := 195) hx hb dX6_reads_190 (by decide) (fun c190 => ?_) (fun c190 => ?_)
              · refine lv_aload_n hx hb dX6_reads_195 rfl (lv_at hl 1 rfl) ?_
                refine lv_dup hx hb dX6_reads_196 rfl ?_
                refine va_get (D := D) (ci := 5) (C := RX6) (T := TX6) (N := 17) hx hb hts hi6 hown hK hP 0 md_0 rfl 11 (by decide) wd2 (fun _ h9 => h9) rfl dX6_reads_197 ?_
                refine lv_iconst (v := 1) hx hb dX6_reads_200 (by decide) ?_
                refine lv_iadd hx hb dX6_reads_201 ?_
                refine my_put (D := D) (ci := 5) (C := RX6) (T := TX6) (N := 17) (ty := .int) hx hb hts hi6 tyX6 tyX6_ok nmX6 hown hK hP hD hS 0 md_0 rfl 11 (by decide) wd2 (fun _ h9 => h9) rfl (by decide +kernel) rfl rfl (Nat.le_of_ble_eq_true rfl) (md_f11 _) dX6_reads_202 (fun H locs hP hD hS => ?_)
                refine lv_iconst (v := 1) hx hb dX6_reads_205 (by decide) ?_
                exact rw_zret _ hx hb hr (rfl) hP hD hS (Eq.trans (if_neg c32) (Eq.trans (if_neg c41) (Eq.trans (if_neg c50) (Eq.trans (if_pos c69) (Eq.trans (if_neg c89) (Eq.trans (if_pos c106) (Eq.trans (if_pos c190) (rfl)))))))) dX6_reads_206 hlocks
              · refine lv_iconst (v := 0) hx hb dX6_reads_193 (by decide) ?_
                exact rw_zret _ hx hb hr (rfl) hP hD hS (Eq.trans (if_neg c32) (Eq.trans (if_neg c41) (Eq.trans (if_neg c50) (Eq.trans (if_pos c69) (Eq.trans (if_neg c89) (Eq.trans (if_pos c106) (Eq.trans (if_neg c190) (rfl)))))))) dX6_reads_194 hlocks
            · refine lv_aload_n hx hb dX6_reads_109 rfl (lv_at hl 1 rfl) ?_
              refine va_get (D := D) (ci := 5) (C := RX6) (T := TX6) (N := 17) hx hb hts hi6 hown hK hP 0 md_0 rfl 13 (by decide) wd3 (fun _ h9 => h9) rfl dX6_reads_110 ?_
              refine lv_iconst (v := -1) hx hb dX6_reads_113 (by decide) ?_
              refine lv_icmp_ne (tgt := 119) hx hb dX6_reads_114 (by decide) (fun c114 => ?_) (fun c114 => ?_)
              · refine lv_iload_n hx hb dX6_reads_119 rfl (lv_at hl 0 rfl) ?_
                refine lv_if_eq (tgt := 168) hx hb dX6_reads_120 (by decide) (fun _ => ?_) (fun c9 => absurd (by decide) c9)
                refine lv_iload_n hx hb dX6_reads_168 rfl (lv_at hl 0 rfl) ?_
                refine lv_if_eq (tgt := 180) hx hb dX6_reads_169 (by decide) (fun _ => ?_) (fun c9 => absurd (by decide) c9)
                refine lv_aload_n hx hb dX6_reads_180 rfl (lv_at hl 1 rfl) ?_
                refine lv_aload_n hx hb dX6_reads_181 rfl (lv_at hl 1 rfl) ?_
                refine va_get (D := D) (ci := 5) (C := RX6) (T := TX6) (N := 17) hx hb hts hi6 hown hK hP 0 md_0 rfl 11 (by decide) wd2 (fun _ h9 => h9) rfl dX6_reads_182 ?_
                refine roV CF (c_X6_signAt l D cI cC cW t _ _ _ _ (by first | (with_reducible (refine okT.lo (b := 61) ?_; (repeat (first | exact okT_s6 hty h0 h60 | refine okT_z7 ?_ | refine okT_z8 ?_ | refine okT_n61 ?_)); done)) | (with_reducible (refine okT.lo (b := 62) ?_; (repeat (first | refine okT_z7 ?_ | refine okT_z8 ?_ | refine okT_n62 ?_)); refine okT_i62 ?_; (repeat (first | exact okT_s6 hty h0 h60 | refine okT_z7 ?_ | refine okT_z8 ?_ | refine okT_n61 ?_)); done))) (by first | (with_reducible (refine okT.ty (b := 61) ?_; (repeat (first | exact okT_s6 hty h0 h60 | refine okT_z7 ?_ | refine okT_z8 ?_ | refine okT_n61 ?_)); done)) | (with_reducible (refine okT.ty (b := 62) ?_; (repeat (first | refine okT_z7 ?_ | refine okT_z8 ?_ | refine okT_n62 ?_)); refine okT_i62 ?_; (repeat (first | exact okT_s6 hty h0 h60 | refine okT_z7 ?_ | refine okT_z8 ?_ | refine okT_n61 ?_)); done)))) (cwV 1 hts gX6_reads_X6_signAt rfl rfl rfl (by decide +kernel) ⟨Nat.le_of_ble_eq_true rfl, Nat.le_of_ble_eq_true rfl⟩) hP hK hX hS 0 5 md_0 rfl rfl hl.1 rfl (Nat.le_of_ble_eq_true rfl) dX6_reads_185 ⟨Nat.zero_le _, Nat.zero_le _⟩ ?_
                refine lv_bipush (v := 59) hx hb dX6_reads_188 (by decide) ?_
                refine lv_icmp_eq (tgt := 195) hx hb dX6_reads_190 (by decide) (fun c190 => ?_) (fun c190 => ?_)
                · refine lv_aload_n hx hb dX6_reads_195 rfl (lv_at hl 1 rfl) ?_
                  refine lv_dup hx hb dX6_reads_196 rfl ?_
                  refine va_get (D := D) (ci := 5) (C := RX6) (T := TX6) (N := 17) hx hb hts hi6 hown hK hP 0 md_0 rfl 11 (by decide) wd2 (fun _ h9 => h9) rfl dX6_reads_197 ?_
                  refine lv_iconst (v := 1) hx hb dX6_reads_200 (by decide) ?_
                  refine lv_iadd hx hb dX6_reads_201 ?_
                  refine my_put (D := D) (ci := 5) (C := RX6) (T := TX6) (N := 17) (ty := .int) hx hb hts hi6 tyX6 tyX6_ok nmX6 hown hK hP hD hS 0 md_0 rfl 11 (by decide) wd2 (fun _ h9 => h9) rfl (by decide +kernel) rfl rfl (Nat.le_of_ble_eq_true rfl) (md_f11 _) dX6_reads_202 (fun H locs hP hD hS => ?_)
                  refine lv_iconst (v := 1) hx hb dX6_reads_205 (by decide) ?_
                  exact rw_zret _ hx hb hr (rfl) hP hD hS (Eq.trans (if_neg c32) (Eq.trans (if_neg c41) (Eq.trans (if_neg c50) (Eq.trans (if_pos c69) (Eq.trans (if_neg c89) (Eq.trans (if_neg c106) (Eq.trans (if_neg c114) (Eq.trans (if_pos c190) (rfl))))))))) dX6_reads_206 hlocks
                · refine lv_iconst (v := 0) hx hb dX6_reads_193 (by decide) ?_
                  exact rw_zret _ hx hb hr (rfl) hP hD hS (Eq.trans (if_neg c32) (Eq.trans (if_neg c41) (Eq.trans (if_neg c50) (Eq.trans (if_pos c69) (Eq.trans (if_neg c89) (Eq.trans (if_neg c106) (Eq.trans (if_neg c114) (Eq.trans (if_neg c190) (rfl))))))))) dX6_reads_194 hlocks
              · refine lv_iconst (v := 0) hx hb dX6_reads_117 (by decide) ?_
                exact rw_zret _ hx hb hr (rfl) hP hD hS (Eq.trans (if_neg c32) (Eq.trans (if_neg c41) (Eq.trans (if_neg c50) (Eq.trans (if_pos c69) (Eq.trans (if_neg c89) (Eq.trans (if_neg c106) (Eq.trans (if_pos c114) (rfl)))))))) dX6_reads_118 hlocks
        · refine lv_aload_n hx hb dX6_reads_72 rfl (lv_at hl 1 rfl) ?_
          refine va_get (D := D) (ci := 5) (C := RX6) (T := TX6) (N := 17) hx hb hts hi6 hown hK hP 0 md_0 rfl 12 (by decide) wd1 (fun _ h9 => h9) rfl dX6_reads_73 ?_
          refine lv_bipush (v := 119) hx hb dX6_reads_76 (by decide) ?_
          refine lv_icmp_eq (tgt := 83) hx hb dX6_reads_78 (by decide) (fun c78 => ?_) (fun c78 => ?_)
          · refine lv_aload_n hx hb dX6_reads_83 rfl (lv_at hl 1 rfl) ?_
            refine va_get (D := D) (ci := 5) (C := RX6) (T := TX6) (N := 17) hx hb hts hi6 hown hK hP 0 md_0 rfl 12 (by decide) wd1 (fun _ h9 => h9) rfl dX6_reads_84 ?_
            refine lv_bipush (v := 119) hx hb dX6_reads_87 (by decide) ?_
            refine lv_icmp_eq (tgt := 100) hx hb dX6_reads_89 (by decide) (fun c89 => ?_) (fun c89 => ?_)
            · refine lv_aload_n hx hb dX6_reads_100 rfl (lv_at hl 1 rfl) ?_
              refine va_get (D := D) (ci := 5) (C := RX6) (T := TX6) (N := 17) hx hb hts hi6 hown hK hP 0 md_0 rfl 12 (by decide) wd1 (fun _ h9 => h9) rfl dX6_reads_101 ?_
              refine lv_bipush (v := 119) hx hb dX6_reads_104 (by decide) ?_
              refine lv_icmp_eq (tgt := 119) hx hb dX6_reads_106 (by decide) (fun c106 => ?_) (fun c106 => ?_)
              · refine lv_iload_n hx hb dX6_reads_119 rfl (lv_at hl 0 rfl) ?_
                refine lv_if_eq (tgt := 168) hx hb dX6_reads_120 (by decide) (fun _ => ?_) (fun c9 => absurd (by decide) c9)
                refine lv_iload_n hx hb dX6_reads_168 rfl (lv_at hl 0 rfl) ?_
                refine lv_if_eq (tgt := 180) hx hb dX6_reads_169 (by decide) (fun _ => ?_) (fun c9 => absurd (by decide) c9)
                refine lv_aload_n hx hb dX6_reads_180 rfl (lv_at hl 1 rfl) ?_
                refine lv_aload_n hx hb dX6_reads_181 rfl (lv_at hl 1 rfl) ?_
                refine va_get (D := D) (ci := 5) (C := RX6) (T := TX6) (N := 17) hx hb hts hi6 hown hK hP 0 md_0 rfl 11 (by decide) wd2 (fun _ h9 => h9) rfl dX6_reads_182 ?_
                refine roV CF (c_X6_signAt l D cI cC cW t _ _ _ _ (by first | (with_reducible (refine okT.lo (b := 61) ?_; (repeat (first | exact okT_s6 hty h0 h60 | refine okT_z7 ?_ | refine okT_z8 ?_ | refine okT_n61 ?_)); done)) | (with_reducible (refine okT.lo (b := 62) ?_; (repeat (first | refine okT_z7 ?_ | refine okT_z8 ?_ | refine okT_n62 ?_)); refine okT_i62 ?_; (repeat (first | exact okT_s6 hty h0 h60 | refine okT_z7 ?_ | refine okT_z8 ?_ | refine okT_n61 ?_)); done))) (by first | (with_reducible (refine okT.ty (b := 61) ?_; (repeat (first | exact okT_s6 hty h0 h60 | refine okT_z7 ?_ | refine okT_z8 ?_ | refine okT_n61 ?_)); done)) | (with_reducible (refine okT.ty (b := 62) ?_; (repeat (first | refine okT_z7 ?_ | refine okT_z8 ?_ | refine okT_n62 ?_)); refine okT_i62 ?_; (repeat (first | exact okT_s6 hty h0 h60 | refine okT_z7 ?_ | refine okT_z8 ?_ | refine okT_n61 ?_)); done)))) (cwV 1 hts gX6_reads_X6_signAt rfl rfl rfl (by decide +kernel) ⟨Nat.le_of_ble_eq_true rfl, Nat.le_of_ble_eq_true rfl⟩) hP hK hX hS 0 5 md_0 rfl rfl hl.1 rfl (Nat.le_of_ble_eq_true rfl) dX6_reads_185 ⟨Nat.zero_le _, Nat.zero_le _⟩ ?_
                refine lv_bipush (v := 59) hx hb dX6_reads_188 (by decide) ?_
                refine lv_icmp_eq (tgt := 195) hx hb dX6_reads_190 (by decide) (fun c190 => ?_) (fun c190 => ?_)
                · refine lv_aload_n hx hb dX6_reads_195 rfl (lv_at hl 1 rfl) ?_
                  refine lv_dup hx hb dX6_reads_196 rfl ?_
                  refine va_get (D := D) (ci := 5) (C := RX6) (T := TX6) (N := 17) hx hb hts hi6 hown hK hP 0 md_0 rfl 11 (by decide) wd2 (fun _ h9 => h9) rfl dX6_reads_197 ?_
                  refine lv_iconst (v := 1) hx hb dX6_reads_200 (by decide) ?_
                  refine lv_iadd hx hb dX6_reads_201 ?_
                  refine my_put (D := D) (ci := 5) (C := RX6) (T := TX6) (N := 17) (ty := .int) hx hb hts hi6 tyX6 tyX6_ok nmX6 hown hK hP hD hS 0 md_0 rfl 11 (by decide) wd2 (fun _ h9 => h9) rfl (by decide +kernel) rfl rfl (Nat.le_of_ble_eq_true rfl) (md_f11 _) dX6_reads_202 (fun H locs hP hD hS => ?_)
                  refine lv_iconst (v := 1) hx hb dX6_reads_205 (by decide) ?_
                  exact rw_zret _ hx hb hr (rfl) hP hD hS (Eq.trans (if_neg c32) (Eq.trans (if_neg c41) (Eq.trans (if_neg c50) (Eq.trans (if_neg c69) (Eq.trans (if_pos c78) (Eq.trans (if_pos c89) (Eq.trans (if_pos c106) (Eq.trans (if_pos c190) (rfl))))))))) dX6_reads_206 hlocks
                · refine lv_iconst (v := 0) hx hb dX6_reads_193 (by decide) ?_
                  exact rw_zret _ hx hb hr (rfl) hP hD hS (Eq.trans (if_neg c32) (Eq.trans (if_neg c41) (Eq.trans (if_neg c50) (Eq.trans (if_neg c69) (Eq.trans (if_pos c78) (Eq.trans (if_pos c89) (Eq.trans (if_pos c106) (Eq.trans (if_neg c190) (rfl))))))))) dX6_reads_194 hlocks
              · refine lv_aload_n hx hb dX6_reads_109 rfl (lv_at hl 1 rfl) ?_
                refine va_get (D := D) (ci := 5) (C := RX6) (T := TX6) (N := 17) hx hb hts hi6 hown hK hP 0 md_0 rfl 13 (by decide) wd3 (fun _ h9 => h9) rfl dX6_reads_110 ?_
                refine lv_iconst (v := -1) hx hb dX6_reads_113 (by decide) ?_
                refine lv_icmp_ne (tgt := 119) hx hb dX6_reads_114 (by decide) (fun c114 => ?_) (fun c114 => ?_)
                · refine lv_iload_n hx hb dX6_reads_119 rfl (lv_at hl 0 rfl) ?_
                  refine lv_if_eq (tgt := 168) hx hb dX6_reads_120 (by decide) (fun _ => ?_) (fun c9 => absurd (by decide) c9)
                  refine lv_iload_n hx hb dX6_reads_168 rfl (lv_at hl 0 rfl) ?_
                  refine lv_if_eq (tgt := 180) hx hb dX6_reads_169 (by decide) (fun _ => ?_) (fun c9 => absurd (by decide) c9)
                  refine lv_aload_n hx hb dX6_reads_180 rfl (lv_at hl 1 rfl) ?_
                  refine lv_aload_n hx hb dX6_reads_181 rfl (lv_at hl 1 rfl) ?_
                  refine va_get (D := D) (ci := 5) (C := RX6) (T := TX6) (N := 17) hx hb hts hi6 hown hK hP 0 md_0 rfl 11 (by decide) wd2 (fun _ h9 => h9) rfl dX6_reads_182 ?_
                  refine roV CF (c_X6_signAt l D cI cC cW t _ _ _ _ (by first | (with_reducible (refine okT.lo (b := 61) ?_; (repeat (first | exact okT_s6 hty h0 h60 | refine okT_z7 ?_ | refine okT_z8 ?_ | refine okT_n61 ?_)); done)) | (with_reducible (refine okT.lo (b := 62) ?_; (repeat (first | refine okT_z7 ?_ | refine okT_z8 ?_ | refine okT_n62 ?_)); refine okT_i62 ?_; (repeat (first | exact okT_s6 hty h0 h60 | refine okT_z7 ?_ | refine okT_z8 ?_ | refine okT_n61 ?_)); done))) (by first | (with_reducible (refine okT.ty (b := 61) ?_; (repeat (first | exact okT_s6 hty h0 h60 | refine okT_z7 ?_ | refine okT_z8 ?_ | refine okT_n61 ?_)); done)) | (with_reducible (refine okT.ty (b := 62) ?_; (repeat (first | refine okT_z7 ?_ | refine okT_z8 ?_ | refine okT_n62 ?_)); refine okT_i62 ?_; (repeat (first | exact okT_s6 hty h0 h60 | refine okT_z7 ?_ | refine okT_z8 ?_ | refine okT_n61 ?_)); done)))) (cwV 1 hts gX6_reads_X6_signAt rfl rfl rfl (by decide +kernel) ⟨Nat.le_of_ble_eq_true rfl, Nat.le_of_ble_eq_true rfl⟩) hP hK hX hS 0 5 md_0 rfl rfl hl.1 rfl (Nat.le_of_ble_eq_true rfl) dX6_reads_185 ⟨Nat.zero_le _, Nat.zero_le _⟩ ?_
                  refine lv_bipush (v := 59) hx hb dX6_reads_188 (by decide) ?_
                  refine lv_icmp_eq (tgt := 195) hx hb dX6_reads_190 (by decide) (fun c190 => ?_) (fun c190 => ?_)
                  · refine lv_aload_n hx hb dX6_reads_195 rfl (lv_at hl 1 rfl) ?_
                    refine lv_dup hx hb dX6_reads_196 rfl ?_
                    refine va_get (D := D) (ci := 5) (C := RX6) (T := TX6) (N := 17) hx hb hts hi6 hown hK hP 0 md_0 rfl 11 (by decide) wd2 (fun _ h9 => h9) rfl dX6_reads_197 ?_
                    refine lv_iconst (v := 1) hx hb dX6_reads_200 (by decide) ?_
                    refine lv_iadd hx hb dX6_reads_201 ?_
                    refine my_put (D := D) (ci := 5) (C := RX6) (T := TX6) (N := 17) (ty := .int) hx hb hts hi6 tyX6 tyX6_ok nmX6 hown hK hP hD hS 0 md_0 rfl 11 (by decide) wd2 (fun _ h9 => h9) rfl (by decide +kernel) rfl rfl (Nat.le_of_ble_eq_true rfl) (md_f11 _) dX6_reads_202 (fun H locs hP hD hS => ?_)
                    refine lv_iconst (v := 1) hx hb dX6_reads_205 (by decide) ?_
                    exact rw_zret _ hx hb hr (rfl) hP hD hS (Eq.trans (if_neg c32) (Eq.trans (if_neg c41) (Eq.trans (if_neg c50) (Eq.trans (if_neg c69) (Eq.trans (if_pos c78) (Eq.trans (if_pos c89) (Eq.trans (if_neg c106) (Eq.trans (if_neg c114) (Eq.trans (if_pos c190) (rfl)))))))))) dX6_reads_206 hlocks
                  · refine lv_iconst (v := 0) hx hb dX6_reads_193 (by decide) ?_
                    exact rw_zret _ hx hb hr (rfl) hP hD hS (Eq.trans (if_neg c32) (Eq.trans (if_neg c41) (Eq.trans (if_neg c50) (Eq.trans (if_neg c69) (Eq.trans (if_pos c78) (Eq.trans (if_pos c89) (Eq.trans (if_neg c106) (Eq.trans (if_neg c114) (Eq.trans (if_neg c190) (rfl)))))))))) dX6_reads_194 hlocks
                · refine lv_iconst (v := 0) hx hb dX6_reads_117 (by decide) ?_
                  exact rw_zret _ hx hb hr (rfl) hP hD hS (Eq.trans (if_neg c32) (Eq.trans (if_neg c41) (Eq.trans (if_neg c50) (Eq.trans (if_neg c69) (Eq.trans (if_pos c78) (Eq.trans (if_pos c89) (Eq.trans (if_neg c106) (Eq.trans (if_pos c114) (rfl))))))))) dX6_reads_118 hlocks
            · refine lv_aload_n hx hb dX6_reads_92 rfl (lv_at hl 1 rfl) ?_
              refine lv_aload_n hx hb dX6_reads_93 rfl (lv_at hl 1 rfl) ?_
              refine rwV CF (c_X6_number l D cI cC cW t _ _ _ _  (by first | (with_reducible (refine okT.lo (b := 61) ?_; (repeat (first | exact okT_s6 hty h0 h60 | refine okT_z7 ?_ | refine okT_z8 ?_ | refine okT_n61 ?_)); done)) | (with_reducible (refine okT.lo (b := 62) ?_; (repeat (first | refine okT_z7 ?_ | refine okT_z8 ?_ | refine okT_n62 ?_)); refine okT_i62 ?_; (repeat (first | exact okT_s6 hty h0 h60 | refine okT_z7 ?_ | refine okT_z8 ?_ | refine okT_n61 ?_)); done))) (by first | (with_reducible (refine okT.ty (b := 61) ?_; (repeat (first | exact okT_s6 hty h0 h60 | refine okT_z7 ?_ | refine okT_z8 ?_ | refine okT_n61 ?_)); done)) | (with_reducible (refine okT.ty (b := 62) ?_; (repeat (first | refine okT_z7 ?_ | refine okT_z8 ?_ | refine okT_n62 ?_)); refine okT_i62 ?_; (repeat (first | exact okT_s6 hty h0 h60 | refine okT_z7 ?_ | refine okT_z8 ?_ | refine okT_n61 ?_)); done)))) (cwV 0 hts gX6_reads_X6_number rfl rfl rfl (by decide +kernel) ⟨Nat.le_of_ble_eq_true rfl, Nat.le_of_ble_eq_true rfl⟩) hP hD hK hX hS hA 0 5 md_0 rfl rfl hl.1 rfl (Nat.le_of_ble_eq_true rfl) dX6_reads_94 ⟨Nat.zero_le _, Nat.zero_le _⟩ (fun H locs hP hD hS => ?_)
              refine my_put (D := D) (ci := 5) (C := RX6) (T := TX6) (N := 17) (ty := .int) hx hb hts hi6 tyX6 tyX6_ok nmX6 hown hK hP hD hS 0 md_0 rfl 13 (by decide) wd3 (fun _ h9 => h9) rfl (by decide +kernel) rfl rfl (Nat.le_of_ble_eq_true rfl) (md_f13 _) dX6_reads_97 (fun H locs hP hD hS => ?_)
              refine lv_aload_n hx hb dX6_reads_100 rfl (lv_at hl 1 rfl) ?_
              refine va_get (D := D) (ci := 5) (C := RX6) (T := TX6) (N := 17) hx hb hts hi6 hown hK hP 0 md_0 rfl 12 (by decide) wd1 (fun _ h9 => h9) rfl dX6_reads_101 ?_
              refine lv_bipush (v := 119) hx hb dX6_reads_104 (by decide) ?_
              refine lv_icmp_eq (tgt := 119) hx hb dX6_reads_106 (by decide) (fun c106 => ?_) (fun c106 => ?_)
              · refine lv_iload_n hx hb dX6_reads_119 rfl (lv_at hl 0 rfl) ?_
                refine lv_if_eq (tgt := 168) hx hb dX6_reads_120 (by decide) (fun _ => ?_) (fun c9 => absurd (by decide) c9)
                refine lv_iload_n hx hb dX6_reads_168 rfl (lv_at hl 0 rfl) ?_
                refine lv_if_eq (tgt := 180) hx hb dX6_reads_169 (by decide) (fun _ => ?_) (fun c9 => absurd (by decide) c9)
                refine lv_aload_n hx hb dX6_reads_180 rfl (lv_at hl 1 rfl) ?_
                refine lv_aload_n hx hb dX6_reads_181 rfl (lv_at hl 1 rfl) ?_
                refine va_get (D := D) (ci := 5) (C := RX6) (T := TX6) (N := 17) hx hb hts hi6 hown hK hP 0 md_0 rfl 11 (by decide) wd2 (fun _ h9 => h9) rfl dX6_reads_182 ?_
                refine roV CF (c_X6_signAt l D cI cC cW t _ _ _ _ (by first | (with_reducible (refine okT.lo (b := 61) ?_; (repeat (first | exact okT_s6 hty h0 h60 | refine okT_z7 ?_ | refine okT_z8 ?_ | refine okT_n61 ?_)); done)) | (with_reducible (refine okT.lo (b := 62) ?_; (repeat (first | refine okT_z7 ?_ | refine okT_z8 ?_ | refine okT_n62 ?_)); refine okT_i62 ?_; (repeat (first | exact okT_s6 hty h0 h60 | refine okT_z7 ?_ | refine okT_z8 ?_ | refine okT_n61 ?_)); done))) (by first | (with_reducible (refine okT.ty (b := 61) ?_; (repeat (first | exact okT_s6 hty h0 h60 | refine okT_z7 ?_ | refine okT_z8 ?_ | refine okT_n61 ?_)); done)) | (with_reducible (refine okT.ty (b := 62) ?_; (repeat (first | refine okT_z7 ?_ | refine okT_z8 ?_ | refine okT_n62 ?_)); refine okT_i62 ?_; (repeat (first | exact okT_s6 hty h0 h60 | refine okT_z7 ?_ | refine okT_z8 ?_ | refine okT_n61 ?_)); done)))) (cwV 1 hts gX6_reads_X6_signAt rfl rfl rfl (by decide +kernel) ⟨Nat.le_of_ble_eq_true rfl, Nat.le_of_ble_eq_true rfl⟩) hP hK hX hS 0 5 md_0 rfl rfl hl.1 rfl (Nat.le_of_ble_eq_true rfl) dX6_reads_185 ⟨Nat.zero_le _, Nat.zero_le _⟩ ?_
                refine lv_bipush (v := 59) hx hb dX6_reads_188 (by decide) ?_
                refine lv_icmp_eq (tgt := 195) hx hb dX6_reads_190 (by decide) (fun c190 => ?_) (fun c190 => ?_)
                · refine lv_aload_n hx hb dX6_reads_195 rfl (lv_at hl 1 rfl) ?_
                  refine lv_dup hx hb dX6_reads_196 rfl ?_
                  refine va_get (D := D) (ci := 5) (C := RX6) (T := TX6) (N := 17) hx hb hts hi6 hown hK hP 0 md_0 rfl 11 (by decide) wd2 (fun _ h9 => h9) rfl dX6_reads_197 ?_
                  refine lv_iconst (v := 1) hx hb dX6_reads_200 (by decide) ?_
                  refine lv_iadd hx hb dX6_reads_201 ?_
                  refine my_put (D := D) (ci := 5) (C := RX6) (T := TX6) (N := 17) (ty := .int) hx hb hts hi6 tyX6 tyX6_ok nmX6 hown hK hP hD hS 0 md_0 rfl 11 (by decide) wd2 (fun _ h9 => h9) rfl (by decide +kernel) rfl rfl (Nat.le_of_ble_eq_true rfl) (md_f11 _) dX6_reads_202 (fun H locs hP hD hS => ?_)
                  refine lv_iconst (v := 1) hx hb dX6_reads_205 (by decide) ?_
                  exact rw_zret _ hx hb hr (rfl) hP hD hS (Eq.trans (if_neg c32) (Eq.trans (if_neg c41) (Eq.trans (if_neg c50) (Eq.trans (if_neg c69) (Eq.trans (if_pos c78) (Eq.trans (if_neg c89) (Eq.trans (if_pos c106) (Eq.trans (if_pos c190) (rfl))))))))) dX6_reads_206 hlocks
                · refine lv_iconst (v := 0) hx hb dX6_reads_193 (by decide) ?_
                  exact rw_zret _ hx hb hr (rfl) hP hD hS (Eq.trans (if_neg c32) (Eq.trans (if_neg c41) (Eq.trans (if_neg c50) (Eq.trans (if_neg c69) (Eq.trans (if_pos c78) (Eq.trans (if_neg c89) (Eq.trans (if_pos c106) (Eq.trans (if_neg c190) (rfl))))))))) dX6_reads_194 hlocks
              · refine lv_aload_n hx hb dX6_reads_109 rfl (lv_at hl 1 rfl) ?_
                refine va_get (D := D) (ci := 5) (C := RX6) (T := TX6) (N := 17) hx hb hts hi6 hown hK hP 0 md_0 rfl 13 (by decide) wd3 (fun _ h9 => h9) rfl dX6_reads_110 ?_
                refine lv_iconst (v := -1) hx hb dX6_reads_113 (by decide) ?_
                refine lv_icmp_ne (tgt := 119) hx hb dX6_reads_114 (by decide) (fun c114 => ?_) (fun c114 => ?_)
                · refine lv_iload_n hx hb dX6_reads_119 rfl (lv_at hl 0 rfl) ?_
                  refine lv_if_eq (tgt := 168) hx hb dX6_reads_120 (by decide) (fun _ => ?_) (fun c9 => absurd (by decide) c9)
                  refine lv_iload_n hx hb dX6_reads_168 rfl (lv_at hl 0 rfl) ?_
                  refine lv_if_eq (tgt := 180) hx hb dX6_reads_169 (by decide) (fun _ => ?_) (fun c9 => absurd (by decide) c9)
                  refine lv_aload_n hx hb dX6_reads_180 rfl (lv_at hl 1 rfl) ?_
                  refine lv_aload_n hx hb dX6_reads_181 rfl (lv_at hl 1 rfl) ?_
                  refine va_get (D := D) (ci := 5) (C := RX6) (T := TX6) (N := 17) hx hb hts hi6 hown hK hP 0 md_0 rfl 11 (by decide) wd2 (fun _ h9 => h9) rfl dX6_reads_182 ?_
                  refine roV CF (c_X6_signAt l D cI cC cW t _ _ _ _ (by first | (with_reducible (refine okT.lo (b := 61) ?_; (repeat (first | exact okT_s6 hty h0 h60 | refine okT_z7 ?_ | refine okT_z8 ?_ | refine okT_n61 ?_)); done)) | (with_reducible (refine okT.lo (b := 62) ?_; (repeat (first | refine okT_z7 ?_ | refine okT_z8 ?_ | refine okT_n62 ?_)); refine okT_i62 ?_; (repeat (first | exact okT_s6 hty h0 h60 | refine okT_z7 ?_ | refine okT_z8 ?_ | refine okT_n61 ?_)); done))) (by first | (with_reducible (refine okT.ty (b := 61) ?_; (repeat (first | exact okT_s6 hty h0 h60 | refine okT_z7 ?_ | refine okT_z8 ?_ | refine okT_n61 ?_)); done)) | (with_reducible (refine okT.ty (b := 62) ?_; (repeat (first | refine okT_z7 ?_ | refine okT_z8 ?_ | refine okT_n62 ?_)); refine okT_i62 ?_; (repeat (first | exact okT_s6 hty h0 h60 | refine okT_z7 ?_ | refine okT_z8 ?_ | refine okT_n61 ?_)); done)))) (cwV 1 hts gX6_reads_X6_signAt rfl rfl rfl (by decide +kernel) ⟨Nat.le_of_ble_eq_true rfl, Nat.le_of_ble_eq_true rfl⟩) hP hK hX hS 0 5 md_0 rfl rfl hl.1 rfl (Nat.le_of_ble_eq_true rfl) dX6_reads_185 ⟨Nat.zero_le _, Nat.zero_le _⟩ ?_
                  refine lv_bipush (v := 59) hx hb dX6_reads_188 (by decide) ?_
                  refine lv_icmp_eq (tgt := 195) hx hb dX6_reads_190 (by decide) (fun c190 => ?_) (fun c190 => ?_)
                  · refine lv_aload_n hx hb dX6_reads_195 rfl (lv_at hl 1 rfl) ?_
                    refine lv_dup hx hb dX6_reads_196 rfl ?_
                    refine va_get (D := D) (ci := 5) (C := RX6) (T := TX6) (N := 17) hx hb hts hi6 hown hK hP 0 md_0 rfl 11 (by decide) wd2 (fun _ h9 => h9) rfl dX6_reads_197 ?_
                    refine lv_iconst (v := 1) hx hb dX6_reads_200 (by decide) ?_
                    refine lv_iadd hx hb dX6_reads_201 ?_
                    refine my_put (D := D) (ci := 5) (C := RX6) (T := TX6) (N := 17) (ty := .int) hx hb hts hi6 tyX6 tyX6_ok nmX6 hown hK hP hD hS 0 md_0 rfl 11 (by decide) wd2 (fun _ h9 => h9) rfl (by decide +kernel) rfl rfl (Nat.le_of_ble_eq_true rfl) (md_f11 _) dX6_reads_202 (fun H locs hP hD hS => ?_)
                    refine lv_iconst (v := 1) hx hb dX6_reads_205 (by decide) ?_
                    exact rw_zret _ hx hb hr (rfl) hP hD hS (Eq.trans (if_neg c32) (Eq.trans (if_neg c41) (Eq.trans (if_neg c50) (Eq.trans (if_neg c69) (Eq.trans (if_pos c78) (Eq.trans (if_neg c89) (Eq.trans (if_neg c106) (Eq.trans (if_neg c114) (Eq.trans (if_pos c190) (rfl)))))))))) dX6_reads_206 hlocks
                  · refine lv_iconst (v := 0) hx hb dX6_reads_193 (by decide) ?_
                    exact rw_zret _ hx hb hr (rfl) hP hD hS (Eq.trans (if_neg c32) (Eq.trans (if_neg c41) (Eq.trans (if_neg c50) (Eq.trans (if_neg c69) (Eq.trans (if_pos c78) (Eq.trans (if_neg c89) (Eq.trans (if_neg c106) (Eq.trans (if_neg c114) (Eq.trans (if_neg c190) (rfl)))))))))) dX6_reads_194 hlocks
                · refine lv_iconst (v := 0) hx hb dX6_reads_117 (by decide) ?_
                  exact rw_zret _ hx hb hr (rfl) hP hD hS (Eq.trans (if_neg c32) (Eq.trans (if_neg c41) (Eq.trans (if_neg c50) (Eq.trans (if_neg c69) (Eq.trans (if_pos c78) (Eq.trans (if_neg c89) (Eq.trans (if_neg c106) (Eq.trans (if_pos c114) (rfl))))))))) dX6_reads_118 hlocks
          · refine lv_iconst (v := 0) hx hb dX6_reads_81 (by decide) ?_
            exact rw_zret _ hx hb hr (rfl) hP hD hS (Eq.trans (if_neg c32) (Eq.trans (if_neg c41) (Eq.trans (if_neg c50) (Eq.trans (if_neg c69) (Eq.trans (if_neg c78) (rfl)))))) dX6_reads_82 hlocks
      · refine lv_iconst (v := 1) hx hb dX6_reads_53 (by decide) ?_
        refine lv_goto (tgt := 58) hx hb dX6_reads_54 (by decide) ?_
        refine lv_istore_n (lv' := [(2, .int _), (0, .ref _), (1, .int _)]) hx hb dX6_reads_58 rfl hl (by decide) rfl (fun ls hl => ?_)
        refine lv_iload_n hx hb dX6_reads_59 rfl (lv_at hl 0 rfl) ?_
        refine lv_if_ne (tgt := 83) hx hb dX6_reads_60 (by decide) (fun _ => ?_) (fun c9 => absurd c9 (by decide))
        refine lv_aload_n hx hb dX6_reads_83 rfl (lv_at hl 1 rfl) ?_
        refine va_get (D := D) (ci := 5) (C := RX6) (T := TX6) (N := 17) hx hb hts hi6 hown hK hP 0 md_0 rfl 12 (by decide) wd1 (fun _ h9 => h9) rfl dX6_reads_84 ?_
        refine lv_bipush (v := 119) hx hb dX6_reads_87 (by decide) ?_
        refine lv_icmp_eq (tgt := 100) hx hb dX6_reads_89 (by decide) (fun c89 => ?_) (fun c89 => ?_)
        · refine lv_aload_n hx hb dX6_reads_100 rfl (lv_at hl 1 rfl) ?_
          refine va_get (D := D) (ci := 5) (C := RX6) (T := TX6) (N := 17) hx hb hts hi6 hown hK hP 0 md_0 rfl 12 (by decide) wd1 (fun _ h9 => h9) rfl dX6_reads_101 ?_
          refine lv_bipush (v := 119) hx hb dX6_reads_104 (by decide) ?_
          refine lv_icmp_eq (tgt := 119) hx hb dX6_reads_106 (by decide) (fun c106 => ?_) (fun c106 => ?_)
          · refine lv_iload_n hx hb dX6_reads_119 rfl (lv_at hl 0 rfl) ?_
            refine lv_if_eq (tgt := 168) hx hb dX6_reads_120 (by decide) (fun c9 => absurd c9 (by decide)) (fun _ => ?_)
            refine lv_aload_n hx hb dX6_reads_123 rfl (lv_at hl 1 rfl) ?_
            refine lv_aload_n hx hb dX6_reads_124 rfl (lv_at hl 1 rfl) ?_
            refine va_get (D := D) (ci := 5) (C := RX6) (T := TX6) (N := 17) hx hb hts hi6 hown hK hP 0 md_0 rfl 11 (by decide) wd2 (fun _ h9 => h9) rfl dX6_reads_125 ?_
            refine roV CF (c_X6_signAt l D cI cC cW t _ _ _ _ (by first | (with_reducible (refine okT.lo (b := 61) ?_; (repeat (first | exact okT_s6 hty h0 h60 | refine okT_z7 ?_ | refine okT_z8 ?_ | refine okT_n61 ?_)); done)) | (with_reducible (refine okT.lo (b := 62) ?_; (repeat (first | refine okT_z7 ?_ | refine okT_z8 ?_ | refine okT_n62 ?_)); refine okT_i62 ?_; (repeat (first | exact okT_s6 hty h0 h60 | refine okT_z7 ?_ | refine okT_z8 ?_ | refine okT_n61 ?_)); done))) (by first | (with_reducible (refine okT.ty (b := 61) ?_; (repeat (first | exact okT_s6 hty h0 h60 | refine okT_z7 ?_ | refine okT_z8 ?_ | refine okT_n61 ?_)); done)) | (with_reducible (refine okT.ty (b := 62) ?_; (repeat (first | refine okT_z7 ?_ | refine okT_z8 ?_ | refine okT_n62 ?_)); refine okT_i62 ?_; (repeat (first | exact okT_s6 hty h0 h60 | refine okT_z7 ?_ | refine okT_z8 ?_ | refine okT_n61 ?_)); done)))) (cwV 1 hts gX6_reads_X6_signAt rfl rfl rfl (by decide +kernel) ⟨Nat.le_of_ble_eq_true rfl, Nat.le_of_ble_eq_true rfl⟩) hP hK hX hS 0 5 md_0 rfl rfl hl.1 rfl (Nat.le_of_ble_eq_true rfl) dX6_reads_128 ⟨Nat.zero_le _, Nat.zero_le _⟩ ?_
            refine lv_bipush (v := 44) hx hb dX6_reads_131 (by decide) ?_
            refine lv_icmp_ne (tgt := 140) hx hb dX6_reads_133 (by decide) (fun c133 => ?_) (fun c133 => ?_)
            · refine lv_iconst (v := 0) hx hb dX6_reads_140 (by decide) ?_
              refine lv_istore_n (lv' := [(3, .int _), (2, .int _), (0, .ref _), (1, .int _)]) hx hb dX6_reads_141 rfl hl (by decide) rfl (fun ls hl => ?_)
              refine lv_aload_n hx hb dX6_reads_142 rfl (lv_at hl 2 rfl) ?_
              refine lv_dup hx hb dX6_reads_143 rfl ?_
              refine va_get (D := D) (ci := 5) (C := RX6) (T := TX6) (N := 17) hx hb hts hi6 hown hK hP 0 md_0 rfl 11 (by decide) wd2 (fun _ h9 => h9) rfl dX6_reads_144 ?_
              refine lv_iconst (v := 1) hx hb dX6_reads_147 (by decide) ?_
              refine lv_iadd hx hb dX6_reads_148 ?_
              refine my_put (D := D) (ci := 5) (C := RX6) (T := TX6) (N := 17) (ty := .int) hx hb hts hi6 tyX6 tyX6_ok nmX6 hown hK hP hD hS 0 md_0 rfl 11 (by decide) wd2 (fun _ h9 => h9) rfl (by decide +kernel) rfl rfl (Nat.le_of_ble_eq_true rfl) (md_f11 _) dX6_reads_149 (fun H locs hP hD hS => ?_)
              refine lv_aload_n hx hb dX6_reads_152 rfl (lv_at hl 2 rfl) ?_
              refine lv_iload_n hx hb dX6_reads_153 rfl (lv_at hl 0 rfl) ?_
              refine lv_if_eq (tgt := 164) hx hb dX6_reads_154 (by decide) (fun _ => ?_) (fun c9 => absurd (by decide) c9)
              refine lv_iconst (v := -1) hx hb dX6_reads_164 (by decide) ?_
              refine my_put (D := D) (ci := 5) (C := RX6) (T := TX6) (N := 17) (ty := .int) hx hb hts hi6 tyX6 tyX6_ok nmX6 hown hK hP hD hS 0 md_0 rfl 14 (by decide) wd4 (fun _ h9 => h9) rfl (by decide +kernel) rfl rfl (Nat.le_of_ble_eq_true rfl) (md_f14 _) dX6_reads_165 (fun H locs hP hD hS => ?_)
              refine lv_iload_n hx hb dX6_reads_168 rfl (lv_at hl 1 rfl) ?_
              refine lv_if_eq (tgt := 180) hx hb dX6_reads_169 (by decide) (fun c9 => absurd c9 (by decide)) (fun _ => ?_)
              refine lv_aload_n hx hb dX6_reads_172 rfl (lv_at hl 2 rfl) ?_
              refine va_get (D := D) (ci := 5) (C := RX6) (T := TX6) (N := 17) hx hb hts hi6 hown hK hP 0 md_0 rfl 14 (by decide) wd4 (fun _ h9 => h9) rfl dX6_reads_173 ?_
              refine lv_iconst (v := -1) hx hb dX6_reads_176 (by decide) ?_
              refine lv_icmp_eq (tgt := 193) hx hb dX6_reads_177 (by decide) (fun c177 => ?_) (fun c177 => ?_)
              · refine lv_iconst (v := 0) hx hb dX6_reads_193 (by decide) ?_
                exact rw_zret _ hx hb hr (rfl) hP hD hS (Eq.trans (if_neg c32) (Eq.trans (if_neg c41) (Eq.trans (if_pos c50) (Eq.trans (if_pos c89) (Eq.trans (if_pos c106) (Eq.trans (if_neg c133) (Eq.trans (if_pos c177) (rfl)))))))) dX6_reads_194 hlocks
              · refine lv_aload_n hx hb dX6_reads_180 rfl (lv_at hl 2 rfl) ?_
                refine lv_aload_n hx hb dX6_reads_181 rfl (lv_at hl 2 rfl) ?_
                refine va_get (D := D) (ci := 5) (C := RX6) (T := TX6) (N := 17) hx hb hts hi6 hown hK hP 0 md_0 rfl 11 (by decide) wd2 (fun _ h9 => h9) rfl dX6_reads_182 ?_
                refine roV CF (c_X6_signAt l D cI cC cW t _ _ _ _ (by first | (with_reducible (refine okT.lo (b := 61) ?_; (repeat (first | exact okT_s6 hty h0 h60 | refine okT_z7 ?_ | refine okT_z8 ?_ | refine okT_n61 ?_)); done)) | (with_reducible (refine okT.lo (b := 62) ?_; (repeat (first | refine okT_z7 ?_ | refine okT_z8 ?_ | refine okT_n62 ?_)); refine okT_i62 ?_; (repeat (first | exact okT_s6 hty h0 h60 | refine okT_z7 ?_ | refine okT_z8 ?_ | refine okT_n61 ?_)); done))) (by first | (with_reducible (refine okT.ty (b := 61) ?_; (repeat (first | exact okT_s6 hty h0 h60 | refine okT_z7 ?_ | refine okT_z8 ?_ | refine okT_n61 ?_)); done)) | (with_reducible (refine okT.ty (b := 62) ?_; (repeat (first | refine okT_z7 ?_ | refine okT_z8 ?_ | refine okT_n62 ?_)); refine okT_i62 ?_; (repeat (first | exact okT_s6 hty h0 h60 | refine okT_z7 ?_ | refine okT_z8 ?_ | refine okT_n61 ?_)); done)))) (cwV 1 hts gX6_reads_X6_signAt rfl rfl rfl (by decide +kernel) ⟨Nat.le_of_ble_eq_true rfl, Nat.le_of_ble_eq_true rfl⟩) hP hK hX hS 0 5 md_0 rfl rfl hl.1 rfl (Nat.le_of_ble_eq_true rfl) dX6_reads_185 ⟨Nat.zero_le _, Nat.zero_le _⟩ ?_
                refine lv_bipush (v := 59) hx hb dX6_reads_188 (by decide) ?_
                refine lv_icmp_eq (tgt := 195) hx hb dX6_reads_190 (by decide) (fun c190 => ?_) (fun c190 => ?_)
                · refine lv_aload_n hx hb dX6_reads_195 rfl (lv_at hl 2 rfl) ?_
                  refine lv_dup hx hb dX6_reads_196 rfl ?_
                  refine va_get (D := D) (ci := 5) (C := RX6) (T := TX6) (N := 17) hx hb hts hi6 hown hK hP 0 md_0 rfl 11 (by decide) wd2 (fun _ h9 => h9) rfl dX6_reads_197 ?_
                  refine lv_iconst (v := 1) hx hb dX6_reads_200 (by decide) ?_
                  refine lv_iadd hx hb dX6_reads_201 ?_
                  refine my_put (D := D) (ci := 5) (C := RX6) (T := TX6) (N := 17) (ty := .int) hx hb hts hi6 tyX6 tyX6_ok nmX6 hown hK hP hD hS 0 md_0 rfl 11 (by decide) wd2 (fun _ h9 => h9) rfl (by decide +kernel) rfl rfl (Nat.le_of_ble_eq_true rfl) (md_f11 _) dX6_reads_202 (fun H locs hP hD hS => ?_)
                  refine lv_iconst (v := 1) hx hb dX6_reads_205 (by decide) ?_
                  exact rw_zret _ hx hb hr (rfl) hP hD hS (Eq.trans (if_neg c32) (Eq.trans (if_neg c41) (Eq.trans (if_pos c50) (Eq.trans (if_pos c89) (Eq.trans (if_pos c106) (Eq.trans (if_neg c133) (Eq.trans (if_neg c177) (Eq.trans (if_pos c190) (rfl))))))))) dX6_reads_206 hlocks
                · refine lv_iconst (v := 0) hx hb dX6_reads_193 (by decide) ?_
                  exact rw_zret _ hx hb hr (rfl) hP hD hS (Eq.trans (if_neg c32) (Eq.trans (if_neg c41) (Eq.trans (if_pos c50) (Eq.trans (if_pos c89) (Eq.trans (if_pos c106) (Eq.trans (if_neg c133) (Eq.trans (if_neg c177) (Eq.trans (if_neg c190) (rfl))))))))) dX6_reads_194 hlocks
            · refine lv_iconst (v := 1) hx hb dX6_reads_136 (by decide) ?_
              refine lv_goto (tgt := 141) hx hb dX6_reads_137 (by decide) ?_
              refine lv_istore_n (lv' := [(3, .int _), (2, .int _), (0, .ref _), (1, .int _)]) hx hb dX6_reads_141 rfl hl (by decide) rfl (fun ls hl => ?_)
              refine lv_aload_n hx hb dX6_reads_142 rfl (lv_at hl 2 rfl) ?_
              refine lv_dup hx hb dX6_reads_143 rfl ?_
              refine va_get (D := D) (ci := 5) (C := RX6) (T := TX6) (N := 17) hx hb hts hi6 hown hK hP 0 md_0 rfl 11 (by decide) wd2 (fun _ h9 => h9) rfl dX6_reads_144 ?_
              refine lv_iconst (v := 1) hx hb dX6_reads_147 (by decide) ?_
              refine lv_iadd hx hb dX6_reads_148 ?_
              refine my_put (D := D) (ci := 5) (C := RX6) (T := TX6) (N := 17) (ty := .int) hx hb hts hi6 tyX6 tyX6_ok nmX6 hown hK hP hD hS 0 md_0 rfl 11 (by decide) wd2 (fun _ h9 => h9) rfl (by decide +kernel) rfl rfl (Nat.le_of_ble_eq_true rfl) (md_f11 _) dX6_reads_149 (fun H locs hP hD hS => ?_)
              refine lv_aload_n hx hb dX6_reads_152 rfl (lv_at hl 2 rfl) ?_
              refine lv_iload_n hx hb dX6_reads_153 rfl (lv_at hl 0 rfl) ?_
              refine lv_if_eq (tgt := 164) hx hb dX6_reads_154 (by decide) (fun c9 => absurd c9 (by decide)) (fun _ => ?_)
              refine lv_aload_n hx hb dX6_reads_157 rfl (lv_at hl 2 rfl) ?_
              refine rwV CF (c_X6_number l D cI cC cW t _ _ _ _  (by first | (with_reducible (refine okT.lo (b := 61) ?_; (repeat (first | exact okT_s6 hty h0 h60 | refine okT_z7 ?_ | refine okT_z8 ?_ | refine okT_n61 ?_)); done)) | (with_reducible (refine okT.lo (b := 62) ?_; (repeat (first | refine okT_z7 ?_ | refine okT_z8 ?_ | refine okT_n62 ?_)); refine okT_i62 ?_; (repeat (first | exact okT_s6 hty h0 h60 | refine okT_z7 ?_ | refine okT_z8 ?_ | refine okT_n61 ?_)); done))) (by first | (with_reducible (refine okT.ty (b := 61) ?_; (repeat (first | exact okT_s6 hty h0 h60 | refine okT_z7 ?_ | refine okT_z8 ?_ | refine okT_n61 ?_)); done)) | (with_reducible (refine okT.ty (b := 62) ?_; (repeat (first | refine okT_z7 ?_ | refine okT_z8 ?_ | refine okT_n62 ?_)); refine okT_i62 ?_; (repeat (first | exact okT_s6 hty h0 h60 | refine okT_z7 ?_ | refine okT_z8 ?_ | refine okT_n61 ?_)); done)))) (cwV 0 hts gX6_reads_X6_number rfl rfl rfl (by decide +kernel) ⟨Nat.le_of_ble_eq_true rfl, Nat.le_of_ble_eq_true rfl⟩) hP hD hK hX hS hA 0 5 md_0 rfl rfl hl.1 rfl (Nat.le_of_ble_eq_true rfl) dX6_reads_158 ⟨Nat.zero_le _, Nat.zero_le _⟩ (fun H locs hP hD hS => ?_)
              refine lv_goto (tgt := 165) hx hb dX6_reads_161 (by decide) ?_
              refine my_put (D := D) (ci := 5) (C := RX6) (T := TX6) (N := 17) (ty := .int) hx hb hts hi6 tyX6 tyX6_ok nmX6 hown hK hP hD hS 0 md_0 rfl 14 (by decide) wd4 (fun _ h9 => h9) rfl (by decide +kernel) rfl rfl (Nat.le_of_ble_eq_true rfl) (md_f14 _) dX6_reads_165 (fun H locs hP hD hS => ?_)
              refine lv_iload_n hx hb dX6_reads_168 rfl (lv_at hl 1 rfl) ?_
              refine lv_if_eq (tgt := 180) hx hb dX6_reads_169 (by decide) (fun c9 => absurd c9 (by decide)) (fun _ => ?_)
              refine lv_aload_n hx hb dX6_reads_172 rfl (lv_at hl 2 rfl) ?_
              refine va_get (D := D) (ci := 5) (C := RX6) (T := TX6) (N := 17) hx hb hts hi6 hown hK hP 0 md_0 rfl 14 (by decide) wd4 (fun _ h9 => h9) rfl dX6_reads_173 ?_
              refine lv_iconst (v := -1) hx hb dX6_reads_176 (by decide) ?_
              refine lv_icmp_eq (tgt := 193) hx hb dX6_reads_177 (by decide) (fun c177 => ?_) (fun c177 => ?_)
              · refine lv_iconst (v := 0) hx hb dX6_reads_193 (by decide) ?_
                exact rw_zret _ hx hb hr (rfl) hP hD hS (Eq.trans (if_neg c32) (Eq.trans (if_neg c41) (Eq.trans (if_pos c50) (Eq.trans (if_pos c89) (Eq.trans (if_pos c106) (Eq.trans (if_pos c133) (Eq.trans (if_pos c177) (rfl)))))))) dX6_reads_194 hlocks
              · refine lv_aload_n hx hb dX6_reads_180 rfl (lv_at hl 2 rfl) ?_
                refine lv_aload_n hx hb dX6_reads_181 rfl (lv_at hl 2 rfl) ?_
                refine va_get (D := D) (ci := 5) (C := RX6) (T := TX6) (N := 17) hx hb hts hi6 hown hK hP 0 md_0 rfl 11 (by decide) wd2 (fun _ h9 => h9) rfl dX6_reads_182 ?_
                refine roV CF (c_X6_signAt l D cI cC cW t _ _ _ _ (by first | (with_reducible (refine okT.lo (b := 61) ?_; (repeat (first | exact okT_s6 hty h0 h60 | refine okT_z7 ?_ | refine okT_z8 ?_ | refine okT_n61 ?_)); done)) | (with_reducible (refine okT.lo (b := 62) ?_; (repeat (first | refine okT_z7 ?_ | refine okT_z8 ?_ | refine okT_n62 ?_)); refine okT_i62 ?_; (repeat (first | exact okT_s6 hty h0 h60 | refine okT_z7 ?_ | refine okT_z8 ?_ | refine okT_n61 ?_)); done))) (by first | (with_reducible (refine okT.ty (b := 61) ?_; (repeat (first | exact okT_s6 hty h0 h60 | refine okT_z7 ?_ | refine okT_z8 ?_ | refine okT_n61 ?_)); done)) | (with_reducible (refine okT.ty (b := 62) ?_; (repeat (first | refine okT_z7 ?_ | refine okT_z8 ?_ | refine okT_n62 ?_)); refine okT_i62 ?_; (repeat (first | exact okT_s6 hty h0 h60 | refine okT_z7 ?_ | refine okT_z8 ?_ | refine okT_n61 ?_)); done)))) (cwV 1 hts gX6_reads_X6_signAt rfl rfl rfl (by decide +kernel) ⟨Nat.le_of_ble_eq_true rfl, Nat.le_of_ble_eq_true rfl⟩) hP hK hX hS 0 5 md_0 rfl rfl hl.1 rfl (Nat.le_of_ble_eq_true rfl) dX6_reads_185 ⟨Nat.zero_le _, Nat.zero_le _⟩ ?_
                refine lv_bipush (v := 59) hx hb dX6_reads_188 (by decide) ?_
                refine lv_icmp_eq (tgt := 195) hx hb dX6_reads_190 (by decide) (fun c190 => ?_) (fun c190 => ?_)
                · refine lv_aload_n hx hb dX6_reads_195 rfl (lv_at hl 2 rfl) ?_
                  refine lv_dup hx hb dX6_reads_196 rfl ?_
                  refine va_get (D := D) (ci := 5) (C := RX6) (T := TX6) (N := 17) hx hb hts hi6 hown hK hP 0 md_0 rfl 11 (by decide) wd2 (fun _ h9 => h9) rfl dX6_reads_197 ?_
                  refine lv_iconst (v := 1) hx hb dX6_reads_200 (by decide) ?_
                  refine lv_iadd hx hb dX6_reads_201 ?_
                  refine my_put (D := D) (ci := 5) (C := RX6) (T := TX6) (N := 17) (ty := .int) hx hb hts hi6 tyX6 tyX6_ok nmX6 hown hK hP hD hS 0 md_0 rfl 11 (by decide) wd2 (fun _ h9 => h9) rfl (by decide +kernel) rfl rfl (Nat.le_of_ble_eq_true rfl) (md_f11 _) dX6_reads_202 (fun H locs hP hD hS => ?_)
                  refine lv_iconst (v := 1) hx hb dX6_reads_205 (by decide) ?_
                  exact rw_zret _ hx hb hr (rfl) hP hD hS (Eq.trans (if_neg c32) (Eq.trans (if_neg c41) (Eq.trans (if_pos c50) (Eq.trans (if_pos c89) (Eq.trans (if_pos c106) (Eq.trans (if_pos c133) (Eq.trans (if_neg c177) (Eq.trans (if_pos c190) (rfl))))))))) dX6_reads_206 hlocks
                · refine lv_iconst (v := 0) hx hb dX6_reads_193 (by decide) ?_
                  exact rw_zret _ hx hb hr (rfl) hP hD hS (Eq.trans (if_neg c32) (Eq.trans (if_neg c41) (Eq.trans (if_pos c50) (Eq.trans (if_pos c89) (Eq.trans (if_pos c106) (Eq.trans (if_pos c133) (Eq.trans (if_neg c177) (Eq.trans (if_neg c190) (rfl))))))))) dX6_reads_194 hlocks
          · refine lv_aload_n hx hb dX6_reads_109 rfl (lv_at hl 1 rfl) ?_
            refine va_get (D := D) (ci := 5) (C := RX6) (T := TX6) (N := 17) hx hb hts hi6 hown hK hP 0 md_0 rfl 13 (by decide) wd3 (fun _ h9 => h9) rfl dX6_reads_110 ?_
            refine lv_iconst (v := -1) hx hb dX6_reads_113 (by decide) ?_
            refine lv_icmp_ne (tgt := 119) hx hb dX6_reads_114 (by decide) (fun c114 => ?_) (fun c114 => ?_)
            · refine lv_iload_n hx hb dX6_reads_119 rfl (lv_at hl 0 rfl) ?_
              refine lv_if_eq (tgt := 168) hx hb dX6_reads_120 (by decide) (fun c9 => absurd c9 (by decide)) (fun _ => ?_)
              refine lv_aload_n hx hb dX6_reads_123 rfl (lv_at hl 1 rfl) ?_
              refine lv_aload_n hx hb dX6_reads_124 rfl (lv_at hl 1 rfl) ?_
              refine va_get (D := D) (ci := 5) (C := RX6) (T := TX6) (N := 17) hx hb hts hi6 hown hK hP 0 md_0 rfl 11 (by decide) wd2 (fun _ h9 => h9) rfl dX6_reads_125 ?_
              refine roV CF (c_X6_signAt l D cI cC cW t _ _ _ _ (by first | (with_reducible (refine okT.lo (b := 61) ?_; (repeat (first | exact okT_s6 hty h0 h60 | refine okT_z7 ?_ | refine okT_z8 ?_ | refine okT_n61 ?_)); done)) | (with_reducible (refine okT.lo (b := 62) ?_; (repeat (first | refine okT_z7 ?_ | refine okT_z8 ?_ | refine okT_n62 ?_)); refine okT_i62 ?_; (repeat (first | exact okT_s6 hty h0 h60 | refine okT_z7 ?_ | refine okT_z8 ?_ | refine okT_n61 ?_)); done))) (by first | (with_reducible (refine okT.ty (b := 61) ?_; (repeat (first | exact okT_s6 hty h0 h60 | refine okT_z7 ?_ | refine okT_z8 ?_ | refine okT_n61 ?_)); done)) | (with_reducible (refine okT.ty (b := 62) ?_; (repeat (first | refine okT_z7 ?_ | refine okT_z8 ?_ | refine okT_n62 ?_)); refine okT_i62 ?_; (repeat (first | exact okT_s6 hty h0 h60 | refine okT_z7 ?_ | refine okT_z8 ?_ | refine okT_n61 ?_)); done)))) (cwV 1 hts gX6_reads_X6_signAt rfl rfl rfl (by decide +kernel) ⟨Nat.le_of_ble_eq_true rfl, Nat.le_of_ble_eq_true rfl⟩) hP hK hX hS 0 5 md_0 rfl rfl hl.1 rfl (Nat.le_of_ble_eq_true rfl) dX6_reads_128 ⟨Nat.zero_le _, Nat.zero_le _⟩ ?_
              refine lv_bipush (v := 44) hx hb dX6_reads_131 (by decide) ?_
              refine lv_icmp_ne (tgt := 140) hx hb dX6_reads_133 (by decide) (fun c133 => ?_) (fun c133 => ?_)
              · refine lv_iconst (v := 0) hx hb dX6_reads_140 (by decide) ?_
                refine lv_istore_n (lv' := [(3, .int _), (2, .int _), (0, .ref _), (1, .int _)]) hx hb dX6_reads_141 rfl hl (by decide) rfl (fun ls hl => ?_)
                refine lv_aload_n hx hb dX6_reads_142 rfl (lv_at hl 2 rfl) ?_
                refine lv_dup hx hb dX6_reads_143 rfl ?_
                refine va_get (D := D) (ci := 5) (C := RX6) (T := TX6) (N := 17) hx hb hts hi6 hown hK hP 0 md_0 rfl 11 (by decide) wd2 (fun _ h9 => h9) rfl dX6_reads_144 ?_
                refine lv_iconst (v := 1) hx hb dX6_reads_147 (by decide) ?_
                refine lv_iadd hx hb dX6_reads_148 ?_
                refine my_put (D := D) (ci := 5) (C := RX6) (T := TX6) (N := 17) (ty := .int) hx hb hts hi6 tyX6 tyX6_ok nmX6 hown hK hP hD hS 0 md_0 rfl 11 (by decide) wd2 (fun _ h9 => h9) rfl (by decide +kernel) rfl rfl (Nat.le_of_ble_eq_true rfl) (md_f11 _) dX6_reads_149 (fun H locs hP hD hS => ?_)
                refine lv_aload_n hx hb dX6_reads_152 rfl (lv_at hl 2 rfl) ?_
                refine lv_iload_n hx hb dX6_reads_153 rfl (lv_at hl 0 rfl) ?_
                refine lv_if_eq (tgt := 164) hx hb dX6_reads_154 (by decide) (fun _ => ?_) (fun c9 => absurd (by decide) c9)
                refine lv_iconst (v := -1) hx hb dX6_reads_164 (by decide) ?_
                refine my_put (D := D) (ci := 5) (C := RX6) (T := TX6) (N := 17) (ty := .int) hx hb hts hi6 tyX6 tyX6_ok nmX6 hown hK hP hD hS 0 md_0 rfl 14 (by decide) wd4 (fun _ h9 => h9) rfl (by decide +kernel) rfl rfl (Nat.le_of_ble_eq_true rfl) (md_f14 _) dX6_reads_165 (fun H locs hP hD hS => ?_)
                refine lv_iload_n hx hb dX6_reads_168 rfl (lv_at hl 1 rfl) ?_
                refine lv_if_eq (tgt := 180) hx hb dX6_reads_169 (by decide) (fun c9 => absurd c9 (by decide)) (fun _ => ?_)
                refine lv_aload_n hx hb dX6_reads_172 rfl (lv_at hl 2 rfl) ?_
                refine va_get (D := D) (ci := 5) (C := RX6) (T := TX6) (N := 17) hx hb hts hi6 hown hK hP 0 md_0 rfl 14 (by decide) wd4 (fun _ h9 => h9) rfl dX6_reads_173 ?_
                refine lv_iconst (v := -1) hx hb dX6_reads_176 (by decide) ?_
                refine lv_icmp_eq (tgt := 193) hx hb dX6_reads_177 (by decide) (fun c177 => ?_) (fun c177 => ?_)
                · refine lv_iconst (v := 0) hx hb dX6_reads_193 (by decide) ?_
                  exact rw_zret _ hx hb hr (rfl) hP hD hS (Eq.trans (if_neg c32) (Eq.trans (if_neg c41) (Eq.trans (if_pos c50) (Eq.trans (if_pos c89) (Eq.trans (if_neg c106) (Eq.trans (if_neg c114) (Eq.trans (if_neg c133) (Eq.trans (if_pos c177) (rfl))))))))) dX6_reads_194 hlocks
                · refine lv_aload_n hx hb dX6_reads_180 rfl (lv_at hl 2 rfl) ?_
                  refine lv_aload_n hx hb dX6_reads_181 rfl (lv_at hl 2 rfl) ?_
                  refine va_get (D := D) (ci := 5) (C := RX6) (T := TX6) (N := 17) hx hb hts hi6 hown hK hP 0 md_0 rfl 11 (by decide) wd2 (fun _ h9 => h9) rfl dX6_reads_182 ?_
                  refine roV CF (c_X6_signAt l D cI cC cW t _ _ _ _ (by first | (with_reducible (refine okT.lo (b := 61) ?_; (repeat (first | exact okT_s6 hty h0 h60 | refine okT_z7 ?_ | refine okT_z8 ?_ | refine okT_n61 ?_)); done)) | (with_reducible (refine okT.lo (b := 62) ?_; (repeat (first | refine okT_z7 ?_ | refine okT_z8 ?_ | refine okT_n62 ?_)); refine okT_i62 ?_; (repeat (first | exact okT_s6 hty h0 h60 | refine okT_z7 ?_ | refine okT_z8 ?_ | refine okT_n61 ?_)); done))) (by first | (with_reducible (refine okT.ty (b := 61) ?_; (repeat (first | exact okT_s6 hty h0 h60 | refine okT_z7 ?_ | refine okT_z8 ?_ | refine okT_n61 ?_)); done)) | (with_reducible (refine okT.ty (b := 62) ?_; (repeat (first | refine okT_z7 ?_ | refine okT_z8 ?_ | refine okT_n62 ?_)); refine okT_i62 ?_; (repeat (first | exact okT_s6 hty h0 h60 | refine okT_z7 ?_ | refine okT_z8 ?_ | refine okT_n61 ?_)); done)))) (cwV 1 hts gX6_reads_X6_signAt rfl rfl rfl (by decide +kernel) ⟨Nat.le_of_ble_eq_true rfl, Nat.le_of_ble_eq_true rfl⟩) hP hK hX hS 0 5 md_0 rfl rfl hl.1 rfl (Nat.le_of_ble_eq_true rfl) dX6_reads_185 ⟨Nat.zero_le _, Nat.zero_le _⟩ ?_
                  refine lv_bipush (v := 59) hx hb dX6_reads_188 (by decide) ?_
                  refine lv_icmp_eq (tgt := 195) hx hb dX6_reads_190 (by decide) (fun c190 => ?_) (fun c190 => ?_)
                  · refine lv_aload_n hx hb dX6_reads_195 rfl (lv_at hl 2 rfl) ?_
                    refine lv_dup hx hb dX6_reads_196 rfl ?_
                    refine va_get (D := D) (ci := 5) (C := RX6) (T := TX6) (N := 17) hx hb hts hi6 hown hK hP 0 md_0 rfl 11 (by decide) wd2 (fun _ h9 => h9) rfl dX6_reads_197 ?_
                    refine lv_iconst (v := 1) hx hb dX6_reads_200 (by decide) ?_
                    refine lv_iadd hx hb dX6_reads_201 ?_
                    refine my_put (D := D) (ci := 5) (C := RX6) (T := TX6) (N := 17) (ty := .int) hx hb hts hi6 tyX6 tyX6_ok nmX6 hown hK hP hD hS 0 md_0 rfl 11 (by decide) wd2 (fun _ h9 => h9) rfl (by decide +kernel) rfl rfl (Nat.le_of_ble_eq_true rfl) (md_f11 _) dX6_reads_202 (fun H locs hP hD hS => ?_)
                    refine lv_iconst (v := 1) hx hb dX6_reads_205 (by decide) ?_
                    exact rw_zret _ hx hb hr (rfl) hP hD hS (Eq.trans (if_neg c32) (Eq.trans (if_neg c41) (Eq.trans (if_pos c50) (Eq.trans (if_pos c89) (Eq.trans (if_neg c106) (Eq.trans (if_neg c114) (Eq.trans (if_neg c133) (Eq.trans (if_neg c177) (Eq.trans (if_pos c190) (rfl)))))))))) dX6_reads_206 hlocks
                  · refine lv_iconst (v := 0) hx hb dX6_reads_193 (by decide) ?_
                    exact rw_zret _ hx hb hr (rfl) hP hD hS (Eq.trans (if_neg c32) (Eq.trans (if_neg c41) (Eq.trans (if_pos c50) (Eq.trans (if_pos c89) (Eq.trans (if_neg c106) (Eq.trans (if_neg c114) (Eq.trans (if_neg c133) (Eq.trans (if_neg c177) (Eq.trans (if_neg c190) (rfl)))))))))) dX6_reads_194 hlocks
              · refine lv_iconst (v := 1) hx hb dX6_reads_136 (by decide) ?_
                refine lv_goto (tgt := 141) hx hb dX6_reads_137 (by decide) ?_
                refine lv_istore_n (lv' := [(3, .int _), (2, .int _), (0, .ref _), (1, .int _)]) hx hb dX6_reads_141 rfl hl (by decide) rfl (fun ls hl => ?_)
                refine lv_aload_n hx hb dX6_reads_142 rfl (lv_at hl 2 rfl) ?_
                refine lv_dup hx hb dX6_reads_143 rfl ?_
                refine va_get (D := D) (ci := 5) (C := RX6) (T := TX6) (N := 17) hx hb hts hi6 hown hK hP 0 md_0 rfl 11 (by decide) wd2 (fun _ h9 => h9) rfl dX6_reads_144 ?_
                refine lv_iconst (v := 1) hx hb dX6_reads_147 (by decide) ?_
                refine lv_iadd hx hb dX6_reads_148 ?_
                refine my_put (D := D) (ci := 5) (C := RX6) (T := TX6) (N := 17) (ty := .int) hx hb hts hi6 tyX6 tyX6_ok nmX6 hown hK hP hD hS 0 md_0 rfl 11 (by decide) wd2 (fun _ h9 => h9) rfl (by decide +kernel) rfl rfl (Nat.le_of_ble_eq_true rfl) (md_f11 _) dX6_reads_149 (fun H locs hP hD hS => ?_)
                refine lv_aload_n hx hb dX6_reads_152 rfl (lv_at hl 2 rfl) ?_
                refine lv_iload_n hx hb dX6_reads_153 rfl (lv_at hl 0 rfl) ?_
                refine lv_if_eq (tgt := 164) hx hb dX6_reads_154 (by decide) (fun c9 => absurd c9 (by decide)) (fun _ => ?_)
                refine lv_aload_n hx hb dX6_reads_157 rfl (lv_at hl 2 rfl) ?_
                refine rwV CF (c_X6_number l D cI cC cW t _ _ _ _  (by first | (with_reducible (refine okT.lo (b := 61) ?_; (repeat (first | exact okT_s6 hty h0 h60 | refine okT_z7 ?_ | refine okT_z8 ?_ | refine okT_n61 ?_)); done)) | (with_reducible (refine okT.lo (b := 62) ?_; (repeat (first | refine okT_z7 ?_ | refine okT_z8 ?_ | refine okT_n62 ?_)); refine okT_i62 ?_; (repeat (first | exact okT_s6 hty h0 h60 | refine okT_z7 ?_ | refine okT_z8 ?_ | refine okT_n61 ?_)); done))) (by first | (with_reducible (refine okT.ty (b := 61) ?_; (repeat (first | exact okT_s6 hty h0 h60 | refine okT_z7 ?_ | refine okT_z8 ?_ | refine okT_n61 ?_)); done)) | (with_reducible (refine okT.ty (b := 62) ?_; (repeat (first | refine okT_z7 ?_ | refine okT_z8 ?_ | refine okT_n62 ?_)); refine okT_i62 ?_; (repeat (first | exact okT_s6 hty h0 h60 | refine okT_z7 ?_ | refine okT_z8 ?_ | refine okT_n61 ?_)); done)))) (cwV 0 hts gX6_reads_X6_number rfl rfl rfl (by decide +kernel) ⟨Nat.le_of_ble_eq_true rfl, Nat.le_of_ble_eq_true rfl⟩) hP hD hK hX hS hA 0 5 md_0 rfl rfl hl.1 rfl (Nat.le_of_ble_eq_true rfl) dX6_reads_158 ⟨Nat.zero_le _, Nat.zero_le _⟩ (fun H locs hP hD hS => ?_)
                refine lv_goto (tgt := 165) hx hb dX6_reads_161 (by decide) ?_
                refine my_put (D := D) (ci := 5) (C := RX6) (T := TX6) (N := 17) (ty := .int) hx hb hts hi6 tyX6 tyX6_ok nmX6 hown hK hP hD hS 0 md_0 rfl 14 (by decide) wd4 (fun _ h9 => h9) rfl (by decide +kernel) rfl rfl (Nat.le_of_ble_eq_true rfl) (md_f14 _) dX6_reads_165 (fun H locs hP hD hS => ?_)
                refine lv_iload_n hx hb dX6_reads_168 rfl (lv_at hl 1 rfl) ?_
                refine lv_if_eq (tgt := 180) hx hb dX6_reads_169 (by decide) (fun c9 => absurd c9 (by decide)) (fun _ => ?_)
                refine lv_aload_n hx hb dX6_reads_172 rfl (lv_at hl 2 rfl) ?_
                refine va_get (D := D) (ci := 5) (C := RX6) (T := TX6) (N := 17) hx hb hts hi6 hown hK hP 0 md_0 rfl 14 (by decide) wd4 (fun _ h9 => h9) rfl dX6_reads_173 ?_
                refine lv_iconst (v := -1) hx hb dX6_reads_176 (by decide) ?_
                refine lv_icmp_eq (tgt := 193) hx hb dX6_reads_177 (by decide) (fun c177 => ?_) (fun c177 => ?_)
                · refine lv_iconst (v := 0) hx hb dX6_reads_193 (by decide) ?_
                  exact rw_zret _ hx hb hr (rfl) hP hD hS (Eq.trans (if_neg c32) (Eq.trans (if_neg c41) (Eq.trans (if_pos c50) (Eq.trans (if_pos c89) (Eq.trans (if_neg c106) (Eq.trans (if_neg c114) (Eq.trans (if_pos c133) (Eq.trans (if_pos c177) (rfl))))))))) dX6_reads_194 hlocks
                · refine lv_aload_n hx hb dX6_reads_180 rfl (lv_at hl 2 rfl) ?_
                  refine lv_aload_n hx hb dX6_reads_181 rfl (lv_at hl 2 rfl) ?_
                  refine va_get (D := D) (ci := 5) (C := RX6) (T := TX6) (N := 17) hx hb hts hi6 hown hK hP 0 md_0 rfl 11 (by decide) wd2 (fun _ h9 => h9) rfl dX6_reads_182 ?_
                  refine roV CF (c_X6_signAt l D cI cC cW t _ _ _ _ (by first | (with_reducible (refine okT.lo (b := 61) ?_; (repeat (first | exact okT_s6 hty h0 h60 | refine okT_z7 ?_ | refine okT_z8 ?_ | refine okT_n61 ?_)); done)) | (with_reducible (refine okT.lo (b := 62) ?_; (repeat (first | refine okT_z7 ?_ | refine okT_z8 ?_ | refine okT_n62 ?_)); refine okT_i62 ?_; (repeat (first | exact okT_s6 hty h0 h60 | refine okT_z7 ?_ | refine okT_z8 ?_ | refine okT_n61 ?_)); done))) (by first | (with_reducible (refine okT.ty (b := 61) ?_; (repeat (first | exact okT_s6 hty h0 h60 | refine okT_z7 ?_ | refine okT_z8 ?_ | refine okT_n61 ?_)); done)) | (with_reducible (refine okT.ty (b := 62) ?_; (repeat (first | refine okT_z7 ?_ | refine okT_z8 ?_ | refine okT_n62 ?_)); refine okT_i62 ?_; (repeat (first | exact okT_s6 hty h0 h60 | refine okT_z7 ?_ | refine okT_z8 ?_ | refine okT_n61 ?_)); done)))) (cwV 1 hts gX6_reads_X6_signAt rfl rfl rfl (by decide +kernel) ⟨Nat.le_of_ble_eq_true rfl, Nat.le_of_ble_eq_true rfl⟩) hP hK hX hS 0 5 md_0 rfl rfl hl.1 rfl (Nat.le_of_ble_eq_true rfl) dX6_reads_185 ⟨Nat.zero_le _, Nat.zero_le _⟩ ?_
                  refine lv_bipush (v := 59) hx hb dX6_reads_188 (by decide) ?_
                  refine lv_icmp_eq (tgt := 195) hx hb dX6_reads_190 (by decide) (fun c190 => ?_) (fun c190 => ?_)
                  · refine lv_aload_n hx hb dX6_reads_195 rfl (lv_at hl 2 rfl) ?_
                    refine lv_dup hx hb dX6_reads_196 rfl ?_
                    refine va_get (D := D) (ci := 5) (C := RX6) (T := TX6) (N := 17) hx hb hts hi6 hown hK hP 0 md_0 rfl 11 (by decide) wd2 (fun _ h9 => h9) rfl dX6_reads_197 ?_
                    refine lv_iconst (v := 1) hx hb dX6_reads_200 (by decide) ?_
                    refine lv_iadd hx hb dX6_reads_201 ?_
                    refine my_put (D := D) (ci := 5) (C := RX6) (T := TX6) (N := 17) (ty := .int) hx hb hts hi6 tyX6 tyX6_ok nmX6 hown hK hP hD hS 0 md_0 rfl 11 (by decide) wd2 (fun _ h9 => h9) rfl (by decide +kernel) rfl rfl (Nat.le_of_ble_eq_true rfl) (md_f11 _) dX6_reads_202 (fun H locs hP hD hS => ?_)
                    refine lv_iconst (v := 1) hx hb dX6_reads_205 (by decide) ?_
                    exact rw_zret _ hx hb hr (rfl) hP hD hS (Eq.trans (if_neg c32) (Eq.trans (if_neg c41) (Eq.trans (if_pos c50) (Eq.trans (if_pos c89) (Eq.trans (if_neg c106) (Eq.trans (if_neg c114) (Eq.trans (if_pos c133) (Eq.trans (if_neg c177) (Eq.trans (if_pos c190) (rfl)))))))))) dX6_reads_206 hlocks
                  · refine lv_iconst (v := 0) hx hb dX6_reads_193 (by decide) ?_
                    exact rw_zret _ hx hb hr (rfl) hP hD hS (Eq.trans (if_neg c32) (Eq.trans (if_neg c41) (Eq.trans (if_pos c50) (Eq.trans (if_pos c89) (Eq.trans (if_neg c106) (Eq.trans (if_neg c114) (Eq.trans (if_pos c133) (Eq.trans (if_neg c177) (Eq.trans (if_neg c190) (rfl)))))))))) dX6_reads_194 hlocks
            · refine lv_iconst (v := 0) hx hb dX6_reads_117 (by decide) ?_
              exact rw_zret _ hx hb hr (rfl) hP hD hS (Eq.trans (if_neg c32) (Eq.trans (if_neg c41) (Eq.trans (if_pos c50) (Eq.trans (if_pos c89) (Eq.trans (if_neg c106) (Eq.trans (if_pos c114) (rfl))))))) dX6_reads_118 hlocks
        · refine lv_aload_n hx hb dX6_reads_92 rfl (lv_at hl 1 rfl) ?_
          refine lv_aload_n hx hb dX6_reads_93 rfl (lv_at hl 1 rfl) ?_
          refine rwV CF (c_X6_number l D cI cC cW t _ _ _ _  (by first | (with_reducible (refine okT.lo (b := 61) ?_; (repeat (first | exact okT_s6 hty h0 h60 | refine okT_z7 ?_ | refine okT_z8 ?_ | refine okT_n61 ?_)); done)) | (with_reducible (refine okT.lo (b := 62) ?_; (repeat (first | refine okT_z7 ?_ | refine okT_z8 ?_ | refine okT_n62 ?_)); refine okT_i62 ?_; (repeat (first | exact okT_s6 hty h0 h60 | refine okT_z7 ?_ | refine okT_z8 ?_ | refine okT_n61 ?_)); done))) (by first | (with_reducible (refine okT.ty (b := 61) ?_; (repeat (first | exact okT_s6 hty h0 h60 | refine okT_z7 ?_ | refine okT_z8 ?_ | refine okT_n61 ?_)); done)) | (with_reducible (refine okT.ty (b := 62) ?_; (repeat (first | refine okT_z7 ?_ | refine okT_z8 ?_ | refine okT_n62 ?_)); refine okT_i62 ?_; (repeat (first | exact okT_s6 hty h0 h60 | refine okT_z7 ?_ | refine okT_z8 ?_ | refine okT_n61 ?_)); done)))) (cwV 0 hts gX6_reads_X6_number rfl rfl rfl (by decide +kernel) ⟨Nat.le_of_ble_eq_true rfl, Nat.le_of_ble_eq_true rfl⟩) hP hD hK hX hS hA 0 5 md_0 rfl rfl hl.1 rfl (Nat.le_of_ble_eq_true rfl) dX6_reads_94 ⟨Nat.zero_le _, Nat.zero_le _⟩ (fun H locs hP hD hS => ?_)
          refine my_put (D := D) (ci := 5) (C := RX6) (T := TX6) (N := 17) (ty := .int) hx hb hts hi6 tyX6 tyX6_ok nmX6 hown hK hP hD hS 0 md_0 rfl 13 (by decide) wd3 (fun _ h9 => h9) rfl (by decide +kernel) rfl rfl (Nat.le_of_ble_eq_true rfl) (md_f13 _) dX6_reads_97 (fun H locs hP hD hS => ?_)
          refine lv_aload_n hx hb dX6_reads_100 rfl (lv_at hl 1 rfl) ?_
          refine va_get (D := D) (ci := 5) (C := RX6) (T := TX6) (N := 17) hx hb hts hi6 hown hK hP 0 md_0 rfl 12 (by decide) wd1 (fun _ h9 => h9) rfl dX6_reads_101 ?_
          refine lv_bipush (v := 119) hx hb dX6_reads_104 (by decide) ?_
          refine lv_icmp_eq (tgt := 119) hx hb dX6_reads_106 (by decide) (fun c106 => ?_) (fun c106 => ?_)
          · refine lv_iload_n hx hb dX6_reads_119 rfl (lv_at hl 0 rfl) ?_
            refine lv_if_eq (tgt := 168) hx hb dX6_reads_120 (by decide) (fun c9 => absurd c9 (by decide)) (fun _ => ?_)
            refine lv_aload_n hx hb dX6_reads_123 rfl (lv_at hl 1 rfl) ?_
            refine lv_aload_n hx hb dX6_reads_124 rfl (lv_at hl 1 rfl) ?_
            refine va_get (D := D) (ci := 5) (C := RX6) (T := TX6) (N := 17) hx hb hts hi6 hown hK hP 0 md_0 rfl 11 (by decide) wd2 (fun _ h9 => h9) rfl dX6_reads_125 ?_
            refine roV CF (c_X6_signAt l D cI cC cW t _ _ _ _ (by first | (with_reducible (refine okT.lo (b := 61) ?_; (repeat (first | exact okT_s6 hty h0 h60 | refine okT_z7 ?_ | refine okT_z8 ?_ | refine okT_n61 ?_)); done)) | (with_reducible (refine okT.lo (b := 62) ?_; (repeat (first | refine okT_z7 ?_ | refine okT_z8 ?_ | refine okT_n62 ?_)); refine okT_i62 ?_; (repeat (first | exact okT_s6 hty h0 h60 | refine okT_z7 ?_ | refine okT_z8 ?_ | refine okT_n61 ?_)); done))) (by first | (with_reducible (refine okT.ty (b := 61) ?_; (repeat (first | exact okT_s6 hty h0 h60 | refine okT_z7 ?_ | refine okT_z8 ?_ | refine okT_n61 ?_)); done)) | (with_reducible (refine okT.ty (b := 62) ?_; (repeat (first | refine okT_z7 ?_ | refine okT_z8 ?_ | refine okT_n62 ?_)); refine okT_i62 ?_; (repeat (first | exact okT_s6 hty h0 h60 | refine okT_z7 ?_ | refine okT_z8 ?_ | refine okT_n61 ?_)); done)))) (cwV 1 hts gX6_reads_X6_signAt rfl rfl rfl (by decide +kernel) ⟨Nat.le_of_ble_eq_true rfl, Nat.le_of_ble_eq_true rfl⟩) hP hK hX hS 0 5 md_0 rfl rfl hl.1 rfl (Nat.le_of_ble_eq_true rfl) dX6_reads_128 ⟨Nat.zero_le _, Nat.zero_le _⟩ ?_
            refine lv_bipush (v := 44) hx hb dX6_reads_131 (by decide) ?_
            refine lv_icmp_ne (tgt := 140) hx hb dX6_reads_133 (by decide) (fun c133 => ?_) (fun c133 => ?_)
            · refine lv_iconst (v := 0) hx hb dX6_reads_140 (by decide) ?_
              refine lv_istore_n (lv' := [(3, .int _), (2, .int _), (0, .ref _), (1, .int _)]) hx hb dX6_reads_141 rfl hl (by decide) rfl (fun ls hl => ?_)
              refine lv_aload_n hx hb dX6_reads_142 rfl (lv_at hl 2 rfl) ?_
              refine lv_dup hx hb dX6_reads_143 rfl ?_
              refine va_get (D := D) (ci := 5) (C := RX6) (T := TX6) (N := 17) hx hb hts hi6 hown hK hP 0 md_0 rfl 11 (by decide) wd2 (fun _ h9 => h9) rfl dX6_reads_144 ?_
              refine lv_iconst (v := 1) hx hb dX6_reads_147 (by decide) ?_
              refine lv_iadd hx hb dX6_reads_148 ?_
              refine my_put (D := D) (ci := 5) (C := RX6) (T := TX6) (N := 17) (ty := .int) hx hb hts hi6 tyX6 tyX6_ok nmX6 hown hK hP hD hS 0 md_0 rfl 11 (by decide) wd2 (fun _ h9 => h9) rfl (by decide +kernel) rfl rfl (Nat.le_of_ble_eq_true rfl) (md_f11 _) dX6_reads_149 (fun H locs hP hD hS => ?_)
              refine lv_aload_n hx hb dX6_reads_152 rfl (lv_at hl 2 rfl) ?_
              refine lv_iload_n hx hb dX6_reads_153 rfl (lv_at hl 0 rfl) ?_
              refine lv_if_eq (tgt := 164) hx hb dX6_reads_154 (by decide) (fun _ => ?_) (fun c9 => absurd (by decide) c9)
              refine lv_iconst (v := -1) hx hb dX6_reads_164 (by decide) ?_
              refine my_put (D := D) (ci := 5) (C := RX6) (T := TX6) (N := 17) (ty := .int) hx hb hts hi6 tyX6 tyX6_ok nmX6 hown hK hP hD hS 0 md_0 rfl 14 (by decide) wd4 (fun _ h9 => h9) rfl (by decide +kernel) rfl rfl (Nat.le_of_ble_eq_true rfl) (md_f14 _) dX6_reads_165 (fun H locs hP hD hS => ?_)
              refine lv_iload_n hx hb dX6_reads_168 rfl (lv_at hl 1 rfl) ?_
              refine lv_if_eq (tgt := 180) hx hb dX6_reads_169 (by decide) (fun c9 => absurd c9 (by decide)) (fun _ => ?_)
              refine lv_aload_n hx hb dX6_reads_172 rfl (lv_at hl 2 rfl) ?_
              refine va_get (D := D) (ci := 5) (C := RX6) (T := TX6) (N := 17) hx hb hts hi6 hown hK hP 0 md_0 rfl 14 (by decide) wd4 (fun _ h9 => h9) rfl dX6_reads_173 ?_
              refine lv_iconst (v := -1) hx hb dX6_reads_176 (by decide) ?_
              refine lv_icmp_eq (tgt := 193) hx hb dX6_reads_177 (by decide) (fun c177 => ?_) (fun c177 => ?_)
              · refine lv_iconst (v := 0) hx hb dX6_reads_193 (by decide) ?_
                exact rw_zret _ hx hb hr (rfl) hP hD hS (Eq.trans (if_neg c32) (Eq.trans (if_neg c41) (Eq.trans (if_pos c50) (Eq.trans (if_neg c89) (Eq.trans (if_pos c106) (Eq.trans (if_neg c133) (Eq.trans (if_pos c177) (rfl)))))))) dX6_reads_194 hlocks
              · refine lv_aload_n hx hb dX6_reads_180 rfl (lv_at hl 2 rfl) ?_
                refine lv_aload_n hx hb dX6_reads_181 rfl (lv_at hl 2 rfl) ?_
                refine va_get (D := D) (ci := 5) (C := RX6) (T := TX6) (N := 17) hx hb hts hi6 hown hK hP 0 md_0 rfl 11 (by decide) wd2 (fun _ h9 => h9) rfl dX6_reads_182 ?_
                refine roV CF (c_X6_signAt l D cI cC cW t _ _ _ _ (by first | (with_reducible (refine okT.lo (b := 61) ?_; (repeat (first | exact okT_s6 hty h0 h60 | refine okT_z7 ?_ | refine okT_z8 ?_ | refine okT_n61 ?_)); done)) | (with_reducible (refine okT.lo (b := 62) ?_; (repeat (first | refine okT_z7 ?_ | refine okT_z8 ?_ | refine okT_n62 ?_)); refine okT_i62 ?_; (repeat (first | exact okT_s6 hty h0 h60 | refine okT_z7 ?_ | refine okT_z8 ?_ | refine okT_n61 ?_)); done))) (by first | (with_reducible (refine okT.ty (b := 61) ?_; (repeat (first | exact okT_s6 hty h0 h60 | refine okT_z7 ?_ | refine okT_z8 ?_ | refine okT_n61 ?_)); done)) | (with_reducible (refine okT.ty (b := 62) ?_; (repeat (first | refine okT_z7 ?_ | refine okT_z8 ?_ | refine okT_n62 ?_)); refine okT_i62 ?_; (repeat (first | exact okT_s6 hty h0 h60 | refine okT_z7 ?_ | refine okT_z8 ?_ | refine okT_n61 ?_)); done)))) (cwV 1 hts gX6_reads_X6_signAt rfl rfl rfl (by decide +kernel) ⟨Nat.le_of_ble_eq_true rfl, Nat.le_of_ble_eq_true rfl⟩) hP hK hX hS 0 5 md_0 rfl rfl hl.1 rfl (Nat.le_of_ble_eq_true rfl) dX6_reads_185 ⟨Nat.zero_le _, Nat.zero_le _⟩ ?_
                refine lv_bipush (v := 59) hx hb dX6_reads_188 (by decide) ?_
                refine lv_icmp_eq (tgt := 195) hx hb dX6_reads_190 (by decide) (fun c190 => ?_) (fun c190 => ?_)
                · refine lv_aload_n hx hb dX6_reads_195 rfl (lv_at hl 2 rfl) ?_
                  refine lv_dup hx hb dX6_reads_196 rfl ?_
                  refine va_get (D := D) (ci := 5) (C := RX6) (T := TX6) (N := 17) hx hb hts hi6 hown hK hP 0 md_0 rfl 11 (by decide) wd2 (fun _ h9 => h9) rfl dX6_reads_197 ?_
                  refine lv_iconst (v := 1) hx hb dX6_reads_200 (by decide) ?_
                  refine lv_iadd hx hb dX6_reads_201 ?_
                  refine my_put (D := D) (ci := 5) (C := RX6) (T := TX6) (N := 17) (ty := .int) hx hb hts hi6 tyX6 tyX6_ok nmX6 hown hK hP hD hS 0 md_0 rfl 11 (by decide) wd2 (fun _ h9 => h9) rfl (by decide +kernel) rfl rfl (Nat.le_of_ble_eq_true rfl) (md_f11 _) dX6_reads_202 (fun H locs hP hD hS => ?_)
                  refine lv_iconst (v := 1) hx hb dX6_reads_205 (by decide) ?_
                  exact rw_zret _ hx hb hr (rfl) hP hD hS (Eq.trans (if_neg c32) (Eq.trans (if_neg c41) (Eq.trans (if_pos c50) (Eq.trans (if_neg c89) (Eq.trans (if_pos c106) (Eq.trans (if_neg c133) (Eq.trans (if_neg c177) (Eq.trans (if_pos c190) (rfl))))))))) dX6_reads_206 hlocks
                · refine lv_iconst (v := 0) hx hb dX6_reads_193 (by decide) ?_
                  exact rw_zret _ hx hb hr (rfl) hP hD hS (Eq.trans (if_neg c32) (Eq.trans (if_neg c41) (Eq.trans (if_pos c50) (Eq.trans (if_neg c89) (Eq.trans (if_pos c106) (Eq.trans (if_neg c133) (Eq.trans (if_neg c177) (Eq.trans (if_neg c190) (rfl))))))))) dX6_reads_194 hlocks
            · refine lv_iconst (v := 1) hx hb dX6_reads_136 (by decide) ?_
              refine lv_goto (tgt := 141) hx hb dX6_reads_137 (by decide) ?_
              refine lv_istore_n (lv' := [(3, .int _), (2, .int _), (0, .ref _), (1, .int _)]) hx hb dX6_reads_141 rfl hl (by decide) rfl (fun ls hl => ?_)
              refine lv_aload_n hx hb dX6_reads_142 rfl (lv_at hl 2 rfl) ?_
              refine lv_dup hx hb dX6_reads_143 rfl ?_
              refine va_get (D := D) (ci := 5) (C := RX6) (T := TX6) (N := 17) hx hb hts hi6 hown hK hP 0 md_0 rfl 11 (by decide) wd2 (fun _ h9 => h9) rfl dX6_reads_144 ?_
              refine lv_iconst (v := 1) hx hb dX6_reads_147 (by decide) ?_
              refine lv_iadd hx hb dX6_reads_148 ?_
              refine my_put (D := D) (ci := 5) (C := RX6) (T := TX6) (N := 17) (ty := .int) hx hb hts hi6 tyX6 tyX6_ok nmX6 hown hK hP hD hS 0 md_0 rfl 11 (by decide) wd2 (fun _ h9 => h9) rfl (by decide +kernel) rfl rfl (Nat.le_of_ble_eq_true rfl) (md_f11 _) dX6_reads_149 (fun H locs hP hD hS => ?_)
              refine lv_aload_n hx hb dX6_reads_152 rfl (lv_at hl 2 rfl) ?_
              refine lv_iload_n hx hb dX6_reads_153 rfl (lv_at hl 0 rfl) ?_
              refine lv_if_eq (tgt := 164) hx hb dX6_reads_154 (by decide) (fun c9 => absurd c9 (by decide)) (fun _ => ?_)
              refine lv_aload_n hx hb dX6_reads_157 rfl (lv_at hl 2 rfl) ?_
              refine rwV CF (c_X6_number l D cI cC cW t _ _ _ _  (by first | (with_reducible (refine okT.lo (b := 61) ?_; (repeat (first | exact okT_s6 hty h0 h60 | refine okT_z7 ?_ | refine okT_z8 ?_ | refine okT_n61 ?_)); done)) | (with_reducible (refine okT.lo (b := 62) ?_; (repeat (first | refine okT_z7 ?_ | refine okT_z8 ?_ | refine okT_n62 ?_)); refine okT_i62 ?_; (repeat (first | exact okT_s6 hty h0 h60 | refine okT_z7 ?_ | refine okT_z8 ?_ | refine okT_n61 ?_)); done))) (by first | (with_reducible (refine okT.ty (b := 61) ?_; (repeat (first | exact okT_s6 hty h0 h60 | refine okT_z7 ?_ | refine okT_z8 ?_ | refine okT_n61 ?_)); done)) | (with_reducible (refine okT.ty (b := 62) ?_; (repeat (first | refine okT_z7 ?_ | refine okT_z8 ?_ | refine okT_n62 ?_)); refine okT_i62 ?_; (repeat (first | exact okT_s6 hty h0 h60 | refine okT_z7 ?_ | refine okT_z8 ?_ | refine okT_n61 ?_)); done)))) (cwV 0 hts gX6_reads_X6_number rfl rfl rfl (by decide +kernel) ⟨Nat.le_of_ble_eq_true rfl, Nat.le_of_ble_eq_true rfl⟩) hP hD hK hX hS hA 0 5 md_0 rfl rfl hl.1 rfl (Nat.le_of_ble_eq_true rfl) dX6_reads_158 ⟨Nat.zero_le _, Nat.zero_le _⟩ (fun H locs hP hD hS => ?_)
              refine lv_goto (tgt := 165) hx hb dX6_reads_161 (by decide) ?_
              refine my_put (D := D) (ci := 5) (C := RX6) (T := TX6) (N := 17) (ty := .int) hx hb hts hi6 tyX6 tyX6_ok nmX6 hown hK hP hD hS 0 md_0 rfl 14 (by decide) wd4 (fun _ h9 => h9) rfl (by decide +kernel) rfl rfl (Nat.le_of_ble_eq_true rfl) (md_f14 _) dX6_reads_165 (fun H locs hP hD hS => ?_)
              refine lv_iload_n hx hb dX6_reads_168 rfl (lv_at hl 1 rfl) ?_
              refine lv_if_eq (tgt := 180) hx hb dX6_reads_169 (by decide) (fun c9 => absurd c9 (by decide)) (fun _ => ?_)
              refine lv_aload_n hx hb dX6_reads_172 rfl (lv_at hl 2 rfl) ?_
              refine va_get (D := D) (ci := 5) (C := RX6) (T := TX6) (N := 17) hx hb hts hi6 hown hK hP 0 md_0 rfl 14 (by decide) wd4 (fun _ h9 => h9) rfl dX6_reads_173 ?_
              refine lv_iconst (v := -1) hx hb dX6_reads_176 (by decide) ?_
              refine lv_icmp_eq (tgt := 193) hx hb dX6_reads_177 (by decide) (fun c177 => ?_) (fun c177 => ?_)
              · refine lv_iconst (v := 0) hx hb dX6_reads_193 (by decide) ?_
                exact rw_zret _ hx hb hr (rfl) hP hD hS (Eq.trans (if_neg c32) (Eq.trans (if_neg c41) (Eq.trans (if_pos c50) (Eq.trans (if_neg c89) (Eq.trans (if_pos c106) (Eq.trans (if_pos c133) (Eq.trans (if_pos c177) (rfl)))))))) dX6_reads_194 hlocks
              · refine lv_aload_n hx hb dX6_reads_180 rfl (lv_at hl 2 rfl) ?_
                refine lv_aload_n hx hb dX6_reads_181 rfl (lv_at hl 2 rfl) ?_
                refine va_get (D := D) (ci := 5) (C := RX6) (T := TX6) (N := 17) hx hb hts hi6 hown hK hP 0 md_0 rfl 11 (by decide) wd2 (fun _ h9 => h9) rfl dX6_reads_182 ?_
                refine roV CF (c_X6_signAt l D cI cC cW t _ _ _ _ (by first | (with_reducible (refine okT.lo (b := 61) ?_; (repeat (first | exact okT_s6 hty h0 h60 | refine okT_z7 ?_ | refine okT_z8 ?_ | refine okT_n61 ?_)); done)) | (with_reducible (refine okT.lo (b := 62) ?_; (repeat (first | refine okT_z7 ?_ | refine okT_z8 ?_ | refine okT_n62 ?_)); refine okT_i62 ?_; (repeat (first | exact okT_s6 hty h0 h60 | refine okT_z7 ?_ | refine okT_z8 ?_ | refine okT_n61 ?_)); done))) (by first | (with_reducible (refine okT.ty (b := 61) ?_; (repeat (first | exact okT_s6 hty h0 h60 | refine okT_z7 ?_ | refine okT_z8 ?_ | refine okT_n61 ?_)); done)) | (with_reducible (refine okT.ty (b := 62) ?_; (repeat (first | refine okT_z7 ?_ | refine okT_z8 ?_ | refine okT_n62 ?_)); refine okT_i62 ?_; (repeat (first | exact okT_s6 hty h0 h60 | refine okT_z7 ?_ | refine okT_z8 ?_ | refine okT_n61 ?_)); done)))) (cwV 1 hts gX6_reads_X6_signAt rfl rfl rfl (by decide +kernel) ⟨Nat.le_of_ble_eq_true rfl, Nat.le_of_ble_eq_true rfl⟩) hP hK hX hS 0 5 md_0 rfl rfl hl.1 rfl (Nat.le_of_ble_eq_true rfl) dX6_reads_185 ⟨Nat.zero_le _, Nat.zero_le _⟩ ?_
                refine lv_bipush (v := 59) hx hb dX6_reads_188 (by decide) ?_
                refine lv_icmp_eq (tgt := 195) hx hb dX6_reads_190 (by decide) (fun c190 => ?_) (fun c190 => ?_)
                · refine lv_aload_n hx hb dX6_reads_195 rfl (lv_at hl 2 rfl) ?_
                  refine lv_dup hx hb dX6_reads_196 rfl ?_
                  refine va_get (D := D) (ci := 5) (C := RX6) (T := TX6) (N := 17) hx hb hts hi6 hown hK hP 0 md_0 rfl 11 (by decide) wd2 (fun _ h9 => h9) rfl dX6_reads_197 ?_
                  refine lv_iconst (v := 1) hx hb dX6_reads_200 (by decide) ?_
                  refine lv_iadd hx hb dX6_reads_201 ?_
                  refine my_put (D := D) (ci := 5) (C := RX6) (T := TX6) (N := 17) (ty := .int) hx hb hts hi6 tyX6 tyX6_ok nmX6 hown hK hP hD hS 0 md_0 rfl 11 (by decide) wd2 (fun _ h9 => h9) rfl (by decide +kernel) rfl rfl (Nat.le_of_ble_eq_true rfl) (md_f11 _) dX6_reads_202 (fun H locs hP hD hS => ?_)
                  refine lv_iconst (v := 1) hx hb dX6_reads_205 (by decide) ?_
                  exact rw_zret _ hx hb hr (rfl) hP hD hS (Eq.trans (if_neg c32) (Eq.trans (if_neg c41) (Eq.trans (if_pos c50) (Eq.trans (if_neg c89) (Eq.trans (if_pos c106) (Eq.trans (if_pos c133) (Eq.trans (if_neg c177) (Eq.trans (if_pos c190) (rfl))))))))) dX6_reads_206 hlocks
                · refine lv_iconst (v := 0) hx hb dX6_reads_193 (by decide) ?_
                  exact rw_zret _ hx hb hr (rfl) hP hD hS (Eq.trans (if_neg c32) (Eq.trans (if_neg c41) (Eq.trans (if_pos c50) (Eq.trans (if_neg c89) (Eq.trans (if_pos c106) (Eq.trans (if_pos c133) (Eq.trans (if_neg c177) (Eq.trans (if_neg c190) (rfl))))))))) dX6_reads_194 hlocks
          · refine lv_aload_n hx hb dX6_reads_109 rfl (lv_at hl 1 rfl) ?_
            refine va_get (D := D) (ci := 5) (C := RX6) (T := TX6) (N := 17) hx hb hts hi6 hown hK hP 0 md_0 rfl 13 (by decide) wd3 (fun _ h9 => h9) rfl dX6_reads_110 ?_
            refine lv_iconst (v := -1) hx hb dX6_reads_113 (by decide) ?_
            refine lv_icmp_ne (tgt := 119) hx hb dX6_reads_114 (by decide) (fun c114 => ?_) (fun c114 => ?_)
            · refine lv_iload_n hx hb dX6_reads_119 rfl (lv_at hl 0 rfl) ?_
              refine lv_if_eq (tgt := 168) hx hb dX6_reads_120 (by decide) (fun c9 => absurd c9 (by decide)) (fun _ => ?_)
              refine lv_aload_n hx hb dX6_reads_123 rfl (lv_at hl 1 rfl) ?_
              refine lv_aload_n hx hb dX6_reads_124 rfl (lv_at hl 1 rfl) ?_
              refine va_get (D := D) (ci := 5) (C := RX6) (T := TX6) (N := 17) hx hb hts hi6 hown hK hP 0 md_0 rfl 11 (by decide) wd2 (fun _ h9 => h9) rfl dX6_reads_125 ?_
              refine roV CF (c_X6_signAt l D cI cC cW t _ _ _ _ (by first | (with_reducible (refine okT.lo (b := 61) ?_; (repeat (first | exact okT_s6 hty h0 h60 | refine okT_z7 ?_ | refine okT_z8 ?_ | refine okT_n61 ?_)); done)) | (with_reducible (refine okT.lo (b := 62) ?_; (repeat (first | refine okT_z7 ?_ | refine okT_z8 ?_ | refine okT_n62 ?_)); refine okT_i62 ?_; (repeat (first | exact okT_s6 hty h0 h60 | refine okT_z7 ?_ | refine okT_z8 ?_ | refine okT_n61 ?_)); done))) (by first | (with_reducible (refine okT.ty (b := 61) ?_; (repeat (first | exact okT_s6 hty h0 h60 | refine okT_z7 ?_ | refine okT_z8 ?_ | refine okT_n61 ?_)); done)) | (with_reducible (refine okT.ty (b := 62) ?_; (repeat (first | refine okT_z7 ?_ | refine okT_z8 ?_ | refine okT_n62 ?_)); refine okT_i62 ?_; (repeat (first | exact okT_s6 hty h0 h60 | refine okT_z7 ?_ | refine okT_z8 ?_ | refine okT_n61 ?_)); done)))) (cwV 1 hts gX6_reads_X6_signAt rfl rfl rfl (by decide +kernel) ⟨Nat.le_of_ble_eq_true rfl, Nat.le_of_ble_eq_true rfl⟩) hP hK hX hS 0 5 md_0 rfl rfl hl.1 rfl (Nat.le_of_ble_eq_true rfl) dX6_reads_128 ⟨Nat.zero_le _, Nat.zero_le _⟩ ?_
              refine lv_bipush (v := 44) hx hb dX6_reads_131 (by decide) ?_
              refine lv_icmp_ne (tgt := 140) hx hb dX6_reads_133 (by decide) (fun c133 => ?_) (fun c133 => ?_)
              · refine lv_iconst (v := 0) hx hb dX6_reads_140 (by decide) ?_
                refine lv_istore_n (lv' := [(3, .int _), (2, .int _), (0, .ref _), (1, .int _)]) hx hb dX6_reads_141 rfl hl (by decide) rfl (fun ls hl => ?_)
                refine lv_aload_n hx hb dX6_reads_142 rfl (lv_at hl 2 rfl) ?_
                refine lv_dup hx hb dX6_reads_143 rfl ?_
                refine va_get (D := D) (ci := 5) (C := RX6) (T := TX6) (N := 17) hx hb hts hi6 hown hK hP 0 md_0 rfl 11 (by decide) wd2 (fun _ h9 => h9) rfl dX6_reads_144 ?_
                refine lv_iconst (v := 1) hx hb dX6_reads_147 (by decide) ?_
                refine lv_iadd hx hb dX6_reads_148 ?_
                refine my_put (D := D) (ci := 5) (C := RX6) (T := TX6) (N := 17) (ty := .int) hx hb hts hi6 tyX6 tyX6_ok nmX6 hown hK hP hD hS 0 md_0 rfl 11 (by decide) wd2 (fun _ h9 => h9) rfl (by decide +kernel) rfl rfl (Nat.le_of_ble_eq_true rfl) (md_f11 _) dX6_reads_149 (fun H locs hP hD hS => ?_)
                refine lv_aload_n hx hb dX6_reads_152 rfl (lv_at hl 2 rfl) ?_
                refine lv_iload_n hx hb dX6_reads_153 rfl (lv_at hl 0 rfl) ?_
                refine lv_if_eq (tgt := 164) hx hb dX6_reads_154 (by decide) (fun _ => ?_) (fun c9 => absurd (by decide) c9)
                refine lv_iconst (v := -1) hx hb dX6_reads_164 (by decide) ?_
                refine my_put (D := D) (ci := 5) (C := RX6) (T := TX6) (N := 17) (ty := .int) hx hb hts hi6 tyX6 tyX6_ok nmX6 hown hK hP hD hS 0 md_0 rfl 14 (by decide) wd4 (fun _ h9 => h9) rfl (by decide +kernel) rfl rfl (Nat.le_of_ble_eq_true rfl) (md_f14 _) dX6_reads_165 (fun H locs hP hD hS => ?_)
                refine lv_iload_n hx hb dX6_reads_168 rfl (lv_at hl 1 rfl) ?_
                refine lv_if_eq (tgt := 180) hx hb dX6_reads_169 (by decide) (fun c9 => absurd c9 (by decide)) (fun _ => ?_)
                refine lv_aload_n hx hb dX6_reads_172 rfl (lv_at hl 2 rfl) ?_
                refine va_get (D := D) (ci := 5) (C := RX6) (T := TX6) (N := 17) hx hb hts hi6 hown hK hP 0 md_0 rfl 14 (by decide) wd4 (fun _ h9 => h9) rfl dX6_reads_173 ?_
                refine lv_iconst (v := -1) hx hb dX6_reads_176 (by decide) ?_
                refine lv_icmp_eq (tgt := 193) hx hb dX6_reads_177 (by decide) (fun c177 => ?_) (fun c177 => ?_)
                · refine lv_iconst (v := 0) hx hb dX6_reads_193 (by decide) ?_
                  exact rw_zret _ hx hb hr (rfl) hP hD hS (Eq.trans (if_neg c32) (Eq.trans (if_neg c41) (Eq.trans (if_pos c50) (Eq.trans (if_neg c89) (Eq.trans (if_neg c106) (Eq.trans (if_neg c114) (Eq.trans (if_neg c133) (Eq.trans (if_pos c177) (rfl))))))))) dX6_reads_194 hlocks
                · refine lv_aload_n hx hb dX6_reads_180 rfl (lv_at hl 2 rfl) ?_
                  refine lv_aload_n hx hb dX6_reads_181 rfl (lv_at hl 2 rfl) ?_
                  refine va_get (D := D) (ci := 5) (C := RX6) (T := TX6) (N := 17) hx hb hts hi6 hown hK hP 0 md_0 rfl 11 (by decide) wd2 (fun _ h9 => h9) rfl dX6_reads_182 ?_
                  refine roV CF (c_X6_signAt l D cI cC cW t _ _ _ _ (by first | (with_reducible (refine okT.lo (b := 61) ?_; (repeat (first | exact okT_s6 hty h0 h60 | refine okT_z7 ?_ | refine okT_z8 ?_ | refine okT_n61 ?_)); done)) | (with_reducible (refine okT.lo (b := 62) ?_; (repeat (first | refine okT_z7 ?_ | refine okT_z8 ?_ | refine okT_n62 ?_)); refine okT_i62 ?_; (repeat (first | exact okT_s6 hty h0 h60 | refine okT_z7 ?_ | refine okT_z8 ?_ | refine okT_n61 ?_)); done))) (by first | (with_reducible (refine okT.ty (b := 61) ?_; (repeat (first | exact okT_s6 hty h0 h60 | refine okT_z7 ?_ | refine okT_z8 ?_ | refine okT_n61 ?_)); done)) | (with_reducible (refine okT.ty (b := 62) ?_; (repeat (first | refine okT_z7 ?_ | refine okT_z8 ?_ | refine okT_n62 ?_)); refine okT_i62 ?_; (repeat (first | exact okT_s6 hty h0 h60 | refine okT_z7 ?_ | refine okT_z8 ?_ | refine okT_n61 ?_)); done)))) (cwV 1 hts gX6_reads_X6_signAt rfl rfl rfl (by decide +kernel) ⟨Nat.le_of_ble_eq_true rfl, Nat.le_of_ble_eq_true rfl⟩) hP hK hX hS 0 5 md_0 rfl rfl hl.1 rfl (Nat.le_of_ble_eq_true rfl) dX6_reads_185 ⟨Nat.zero_le _, Nat.zero_le _⟩ ?_
                  refine lv_bipush (v := 59) hx hb dX6_reads_188 (by decide) ?_
                  refine lv_icmp_eq (tgt := 195) hx hb dX6_reads_190 (by decide) (fun c190 => ?_) (fun c190 => ?_)
                  · refine lv_aload_n hx hb dX6_reads_195 rfl (lv_at hl 2 rfl) ?_
                    refine lv_dup hx hb dX6_reads_196 rfl ?_
                    refine va_get (D := D) (ci := 5) (C := RX6) (T := TX6) (N := 17) hx hb hts hi6 hown hK hP 0 md_0 rfl 11 (by decide) wd2 (fun _ h9 => h9) rfl dX6_reads_197 ?_
                    refine lv_iconst (v := 1) hx hb dX6_reads_200 (by decide) ?_
                    refine lv_iadd hx hb dX6_reads_201 ?_
                    refine my_put (D := D) (ci := 5) (C := RX6) (T := TX6) (N := 17) (ty := .int) hx hb hts hi6 tyX6 tyX6_ok nmX6 hown hK hP hD hS 0 md_0 rfl 11 (by decide) wd2 (fun _ h9 => h9) rfl (by decide +kernel) rfl rfl (Nat.le_of_ble_eq_true rfl) (md_f11 _) dX6_reads_202 (fun H locs hP hD hS => ?_)
                    refine lv_iconst (v := 1) hx hb dX6_reads_205 (by decide) ?_
                    exact rw_zret _ hx hb hr (rfl) hP hD hS (Eq.trans (if_neg c32) (Eq.trans (if_neg c41) (Eq.trans (if_pos c50) (Eq.trans (if_neg c89) (Eq.trans (if_neg c106) (Eq.trans (if_neg c114) (Eq.trans (if_neg c133) (Eq.trans (if_neg c177) (Eq.trans (if_pos c190) (rfl)))))))))) dX6_reads_206 hlocks
                  · refine lv_iconst (v := 0) hx hb dX6_reads_193 (by decide) ?_
                    exact rw_zret _ hx hb hr (rfl) hP hD hS (Eq.trans (if_neg c32) (Eq.trans (if_neg c41) (Eq.trans (if_pos c50) (Eq.trans (if_neg c89) (Eq.trans (if_neg c106) (Eq.trans (if_neg c114) (Eq.trans (if_neg c133) (Eq.trans (if_neg c177) (Eq.trans (if_neg c190) (rfl)))))))))) dX6_reads_194 hlocks
              · refine lv_iconst (v := 1) hx hb dX6_reads_136 (by decide) ?_
                refine lv_goto (tgt := 141) hx hb dX6_reads_137 (by decide) ?_
                refine lv_istore_n (lv' := [(3, .int _), (2, .int _), (0, .ref _), (1, .int _)]) hx hb dX6_reads_141 rfl hl (by decide) rfl (fun ls hl => ?_)
                refine lv_aload_n hx hb dX6_reads_142 rfl (lv_at hl 2 rfl) ?_
                refine lv_dup hx hb dX6_reads_143 rfl ?_
                refine va_get (D := D) (ci := 5) (C := RX6) (T := TX6) (N := 17) hx hb hts hi6 hown hK hP 0 md_0 rfl 11 (by decide) wd2 (fun _ h9 => h9) rfl dX6_reads_144 ?_
                refine lv_iconst (v := 1) hx hb dX6_reads_147 (by decide) ?_
                refine lv_iadd hx hb dX6_reads_148 ?_
                refine my_put (D := D) (ci := 5) (C := RX6) (T := TX6) (N := 17) (ty := .int) hx hb hts hi6 tyX6 tyX6_ok nmX6 hown hK hP hD hS 0 md_0 rfl 11 (by decide) wd2 (fun _ h9 => h9) rfl (by decide +kernel) rfl rfl (Nat.le_of_ble_eq_true rfl) (md_f11 _) dX6_reads_149 (fun H locs hP hD hS => ?_)
                refine lv_aload_n hx hb dX6_reads_152 rfl (lv_at hl 2 rfl) ?_
                refine lv_iload_n hx hb dX6_reads_153 rfl (lv_at hl 0 rfl) ?_
                refine lv_if_eq (tgt := 164) hx hb dX6_reads_154 (by decide) (fun c9 => absurd c9 (by decide)) (fun _ => ?_)
                refine lv_aload_n hx hb dX6_reads_157 rfl (lv_at hl 2 rfl) ?_
                refine rwV CF (c_X6_number l D cI cC cW t _ _ _ _  (by first | (with_reducible (refine okT.lo (b := 61) ?_; (repeat (first | exact okT_s6 hty h0 h60 | refine okT_z7 ?_ | refine okT_z8 ?_ | refine okT_n61 ?_)); done)) | (with_reducible (refine okT.lo (b := 62) ?_; (repeat (first | refine okT_z7 ?_ | refine okT_z8 ?_ | refine okT_n62 ?_)); refine okT_i62 ?_; (repeat (first | exact okT_s6 hty h0 h60 | refine okT_z7 ?_ | refine okT_z8 ?_ | refine okT_n61 ?_)); done))) (by first | (with_reducible (refine okT.ty (b := 61) ?_; (repeat (first | exact okT_s6 hty h0 h60 | refine okT_z7 ?_ | refine okT_z8 ?_ | refine okT_n61 ?_)); done)) | (with_reducible (refine okT.ty (b := 62) ?_; (repeat (first | refine okT_z7 ?_ | refine okT_z8 ?_ | refine okT_n62 ?_)); refine okT_i62 ?_; (repeat (first | exact okT_s6 hty h0 h60 | refine okT_z7 ?_ | refine okT_z8 ?_ | refine okT_n61 ?_)); done)))) (cwV 0 hts gX6_reads_X6_number rfl rfl rfl (by decide +kernel) ⟨Nat.le_of_ble_eq_true rfl, Nat.le_of_ble_eq_true rfl⟩) hP hD hK hX hS hA 0 5 md_0 rfl rfl hl.1 rfl (Nat.le_of_ble_eq_true rfl) dX6_reads_158 ⟨Nat.zero_le _, Nat.zero_le _⟩ (fun H locs hP hD hS => ?_)
                refine lv_goto (tgt := 165) hx hb dX6_reads_161 (by decide) ?_
                refine my_put (D := D) (ci := 5) (C := RX6) (T := TX6) (N := 17) (ty := .int) hx hb hts hi6 tyX6 tyX6_ok nmX6 hown hK hP hD hS 0 md_0 rfl 14 (by decide) wd4 (fun _ h9 => h9) rfl (by decide +kernel) rfl rfl (Nat.le_of_ble_eq_true rfl) (md_f14 _) dX6_reads_165 (fun H locs hP hD hS => ?_)
                refine lv_iload_n hx hb dX6_reads_168 rfl (lv_at hl 1 rfl) ?_
                refine lv_if_eq (tgt := 180) hx hb dX6_reads_169 (by decide) (fun c9 => absurd c9 (by decide)) (fun _ => ?_)
                refine lv_aload_n hx hb dX6_reads_172 rfl (lv_at hl 2 rfl) ?_
                refine va_get (D := D) (ci := 5) (C := RX6) (T := TX6) (N := 17) hx hb hts hi6 hown hK hP 0 md_0 rfl 14 (by decide) wd4 (fun _ h9 => h9) rfl dX6_reads_173 ?_
                refine lv_iconst (v := -1) hx hb dX6_reads_176 (by decide) ?_
                refine lv_icmp_eq (tgt := 193) hx hb dX6_reads_177 (by decide) (fun c177 => ?_) (fun c177 => ?_)
                · refine lv_iconst (v := 0) hx hb dX6_reads_193 (by decide) ?_
                  exact rw_zret _ hx hb hr (rfl) hP hD hS (Eq.trans (if_neg c32) (Eq.trans (if_neg c41) (Eq.trans (if_pos c50) (Eq.trans (if_neg c89) (Eq.trans (if_neg c106) (Eq.trans (if_neg c114) (Eq.trans (if_pos c133) (Eq.trans (if_pos c177) (rfl))))))))) dX6_reads_194 hlocks
                · refine lv_aload_n hx hb dX6_reads_180 rfl (lv_at hl 2 rfl) ?_
                  refine lv_aload_n hx hb dX6_reads_181 rfl (lv_at hl 2 rfl) ?_
                  refine va_get (D := D) (ci := 5) (C := RX6) (T := TX6) (N := 17) hx hb hts hi6 hown hK hP 0 md_0 rfl 11 (by decide) wd2 (fun _ h9 => h9) rfl dX6_reads_182 ?_
                  refine roV CF (c_X6_signAt l D cI cC cW t _ _ _ _ (by first | (with_reducible (refine okT.lo (b := 61) ?_; (repeat (first | exact okT_s6 hty h0 h60 | refine okT_z7 ?_ | refine okT_z8 ?_ | refine okT_n61 ?_)); done)) | (with_reducible (refine okT.lo (b := 62) ?_; (repeat (first | refine okT_z7 ?_ | refine okT_z8 ?_ | refine okT_n62 ?_)); refine okT_i62 ?_; (repeat (first | exact okT_s6 hty h0 h60 | refine okT_z7 ?_ | refine okT_z8 ?_ | refine okT_n61 ?_)); done))) (by first | (with_reducible (refine okT.ty (b := 61) ?_; (repeat (first | exact okT_s6 hty h0 h60 | refine okT_z7 ?_ | refine okT_z8 ?_ | refine okT_n61 ?_)); done)) | (with_reducible (refine okT.ty (b := 62) ?_; (repeat (first | refine okT_z7 ?_ | refine okT_z8 ?_ | refine okT_n62 ?_)); refine okT_i62 ?_; (repeat (first | exact okT_s6 hty h0 h60 | refine okT_z7 ?_ | refine okT_z8 ?_ | refine okT_n61 ?_)); done)))) (cwV 1 hts gX6_reads_X6_signAt rfl rfl rfl (by decide +kernel) ⟨Nat.le_of_ble_eq_true rfl, Nat.le_of_ble_eq_true rfl⟩) hP hK hX hS 0 5 md_0 rfl rfl hl.1 rfl (Nat.le_of_ble_eq_true rfl) dX6_reads_185 ⟨Nat.zero_le _, Nat.zero_le _⟩ ?_
                  refine lv_bipush (v := 59) hx hb dX6_reads_188 (by decide) ?_
                  refine lv_icmp_eq (tgt := 195) hx hb dX6_reads_190 (by decide) (fun c190 => ?_) (fun c190 => ?_)
                  · refine lv_aload_n hx hb dX6_reads_195 rfl (lv_at hl 2 rfl) ?_
                    refine lv_dup hx hb dX6_reads_196 rfl ?_
                    refine va_get (D := D) (ci := 5) (C := RX6) (T := TX6) (N := 17) hx hb hts hi6 hown hK hP 0 md_0 rfl 11 (by decide) wd2 (fun _ h9 => h9) rfl dX6_reads_197 ?_
                    refine lv_iconst (v := 1) hx hb dX6_reads_200 (by decide) ?_
                    refine lv_iadd hx hb dX6_reads_201 ?_
                    refine my_put (D := D) (ci := 5) (C := RX6) (T := TX6) (N := 17) (ty := .int) hx hb hts hi6 tyX6 tyX6_ok nmX6 hown hK hP hD hS 0 md_0 rfl 11 (by decide) wd2 (fun _ h9 => h9) rfl (by decide +kernel) rfl rfl (Nat.le_of_ble_eq_true rfl) (md_f11 _) dX6_reads_202 (fun H locs hP hD hS => ?_)
                    refine lv_iconst (v := 1) hx hb dX6_reads_205 (by decide) ?_
                    exact rw_zret _ hx hb hr (rfl) hP hD hS (Eq.trans (if_neg c32) (Eq.trans (if_neg c41) (Eq.trans (if_pos c50) (Eq.trans (if_neg c89) (Eq.trans (if_neg c106) (Eq.trans (if_neg c114) (Eq.trans (if_pos c133) (Eq.trans (if_neg c177) (Eq.trans (if_pos c190) (rfl)))))))))) dX6_reads_206 hlocks
                  · refine lv_iconst (v := 0) hx hb dX6_reads_193 (by decide) ?_
                    exact rw_zret _ hx hb hr (rfl) hP hD hS (Eq.trans (if_neg c32) (Eq.trans (if_neg c41) (Eq.trans (if_pos c50) (Eq.trans (if_neg c89) (Eq.trans (if_neg c106) (Eq.trans (if_neg c114) (Eq.trans (if_pos c133) (Eq.trans (if_neg c177) (Eq.trans (if_neg c190) (rfl)))))))))) dX6_reads_194 hlocks
            · refine lv_iconst (v := 0) hx hb dX6_reads_117 (by decide) ?_
              exact rw_zret _ hx hb hr (rfl) hP hD hS (Eq.trans (if_neg c32) (Eq.trans (if_neg c41) (Eq.trans (if_pos c50) (Eq.trans (if_neg c89) (Eq.trans (if_neg c106) (Eq.trans (if_pos c114) (rfl))))))) dX6_reads_118 hlocks

def sp_X6_can (N : Nat → Int32) (Z : Nat → Nat → Int32) : Int32 :=
  if (Z 0 6) = (109 : Int32) then ((sp_X6_canMove N Z (Z 0 7) (Z 0 8))) else (if (Z 0 6) = (112 : Int32) then (if (sp_X6_in (Z 0 8) (1 : Int32) (200 : Int32)) = 0 then ((0 : Int32)) else (if (sp_X6_canPick N Z (Z 0 7) (Z 0 8)) = 0 then ((0 : Int32)) else ((1 : Int32)))) else (if (Z 0 6) = (114 : Int32) then ((sp_X6_canRefill N Z (Z 0 7))) else (if (Z 0 6) = (120 : Int32) then ((sp_X6_canExchange N Z (Z 0 7) (Z 0 8))) else (if (1000 : Int32) ≤ (N 1) then ((0 : Int32)) else ((1 : Int32))))))
set_option maxHeartbeats 4000000 in
set_option maxRecDepth 100000 in
theorem c_X6_can (l : Launch) (D : va_G) (cI cC cW : ClassId) (t : Nat → Nat) (a : Nat → Nat) (N : Nat → Int32) (Z : Nat → Nat → Int32) (hsf : sfN N) (hth : ¬ sp_X6_isThere N Z = 0) : Met l yX6_can wsX6_can ({ frames := 3, cells := 0, slots := 0, locals := 67 }) (va_Pc [.ref (a 0)] (roP D (tyL cI cC cW) (md cI a N Z) t)) (vp_Si (fun r => r = sp_X6_can N Z)) 0 0 (fun _ => False) := by
  refine Met.ofW (cc := cX6_can) (maxL := 1) (ret := (some .boolean)) (by decide) rfl ?_
  intro p e s m args below meth c s₁ B hml hv
  obtain ⟨rfl, hP, hK, hX⟩ := hv
  have hx := B.exec
  have hb := B.bytes
  have hr := B.returns
  have hts := atoms_spec (ws := wsX6_can) B.pre
  have hown : s.vm.findClass RX6 = some m.cls := findClass_of_methodNamed B.named
  have hlocks := B.notSynchronized
  have hS : va_S (fun _ => False) s.heap s.heap [] := va_S.rf
  have wd1 : (Cond.fieldLink RX6 165 "PickSlotsModel" "letter" "I").before [.ref (a 0)].toArray s = true := hts _ (List.mem_of_getElem? (i := 1) rfl)
  have wd3 : (Cond.fieldLink RX6 168 "PickSlotsModel" "first" "I").before [.ref (a 0)].toArray s = true := hts _ (List.mem_of_getElem? (i := 3) rfl)
  have wd2 : (Cond.fieldLink RX6 171 "PickSlotsModel" "second" "I").before [.ref (a 0)].toArray s = true := hts _ (List.mem_of_getElem? (i := 2) rfl)
  have wd4 : (Cond.fieldLink RX6 7 "PickSlotsModel" "now" "[I").before [.ref (a 0)].toArray s = true := hts _ (List.mem_of_getElem? (i := 4) rfl)
  have hi6 : ∀ w ∈ wsX60, w ∈ wsX6_can := fun w h => List.mem_cons_of_mem _ (List.mem_append_right _ (h))
  have CF : CallFix p m c cX6_can 1 s [.ref (a 0)].toArray wsX6_can RX6 := ⟨hx, hb, hml, hown, hts⟩
  have hl := lv_entry ([.ref (a 0)]) (n := 1) (Nat.le_of_ble_eq_true rfl)
  rw [lg_entry_eq]
  generalize (lg_sl ([.ref (a 0)]) ++ List.replicate (1 - (lg_sl ([.ref (a 0)])).length) Slot.unset).toArray = ls at hl ⊢
  have hl : lv_has ls 1 [(0, .ref (a 0))] := hl
  refine lv_aload_n hx hb dX6_can_0 rfl (lv_at hl 0 rfl) ?_
  refine va_get (D := D) (ci := 5) (C := RX6) (T := TX6) (N := 17) hx hb hts hi6 hown hK hP 0 md_0 rfl 12 (by decide) wd1 (fun _ h9 => h9) rfl dX6_can_1 ?_
  by_cases c4_109 : (Z 0 6) = (109 : Int32)
  · refine lv_lookup (off := 88) (tgt := 92) hx hb dX6_can_4 (by decide) (by rw [c4_109]; first | done | rfl) (by decide) ?_
    refine lv_aload_n hx hb dX6_can_92 rfl (lv_at hl 0 rfl) ?_
    refine lv_aload_n hx hb dX6_can_93 rfl (lv_at hl 0 rfl) ?_
    refine va_get (D := D) (ci := 5) (C := RX6) (T := TX6) (N := 17) hx hb hts hi6 hown hK hP 0 md_0 rfl 13 (by decide) wd3 (fun _ h9 => h9) rfl dX6_can_94 ?_
    refine lv_aload_n hx hb dX6_can_97 rfl (lv_at hl 0 rfl) ?_
    refine va_get (D := D) (ci := 5) (C := RX6) (T := TX6) (N := 17) hx hb hts hi6 hown hK hP 0 md_0 rfl 14 (by decide) wd2 (fun _ h9 => h9) rfl dX6_can_98 ?_
    refine roV CF (c_X6_canMove l D cI cC cW t _ _ _ _ _ (hsf) (thF hsf hth (by rw [c4_109]; decide))) (cwV 2 hts gX6_can_X6_canMove rfl rfl rfl (by decide +kernel) ⟨Nat.le_of_ble_eq_true rfl, Nat.le_of_ble_eq_true rfl⟩) hP hK hX hS 0 5 md_0 rfl rfl hl.1 rfl (Nat.le_of_ble_eq_true rfl) dX6_can_101 ⟨Nat.zero_le _, Nat.zero_le _⟩ ?_
    exact ro_zret hx hb hr (zb_X6_canMove) (Eq.trans (if_pos c4_109) (rfl)) dX6_can_104 hlocks
  · by_cases c4_112 : (Z 0 6) = (112 : Int32)
    · refine lv_lookup (off := 44) (tgt := 48) hx hb dX6_can_4 (by decide) (by rw [c4_112]; first | done | rfl) (by decide) ?_
      refine lv_aload_n hx hb dX6_can_48 rfl (lv_at hl 0 rfl) ?_
      refine va_get (D := D) (ci := 5) (C := RX6) (T := TX6) (N := 17) hx hb hts hi6 hown hK hP 0 md_0 rfl 14 (by decide) wd2 (fun _ h9 => h9) rfl dX6_can_49 ?_
      refine lv_iconst (v := 1) hx hb dX6_can_52 (by decide) ?_
      refine lv_sipush (v := 200) hx hb dX6_can_53 (by decide) ?_
      refine roS CF (c_X6_in l D cI cC cW t _ _ _ ) (va_cwS 3 hts gX6_can_X6_in rfl rfl rfl (by decide +kernel) ⟨Nat.le_of_ble_eq_true rfl, Nat.le_of_ble_eq_true rfl⟩) vP_nil hK hX hS rfl hl.1 rfl (Nat.le_of_ble_eq_true rfl) dX6_can_56 ⟨Nat.zero_le _, Nat.zero_le _⟩ ?_
      refine lv_if_eq (tgt := 81) hx hb dX6_can_59 (by decide) (fun c59 => ?_) (fun c59 => ?_)
      · refine lv_iconst (v := 0) hx hb dX6_can_81 (by decide) ?_
        exact ro_zret hx hb hr (rfl) (Eq.trans (if_neg c4_109) (Eq.trans (if_pos c4_112) (Eq.trans (if_pos c59) (rfl)))) dX6_can_82 hlocks
      · refine lv_aload_n hx hb dX6_can_62 rfl (lv_at hl 0 rfl) ?_
        refine lv_aload_n hx hb dX6_can_63 rfl (lv_at hl 0 rfl) ?_
        refine va_get (D := D) (ci := 5) (C := RX6) (T := TX6) (N := 17) hx hb hts hi6 hown hK hP 0 md_0 rfl 13 (by decide) wd3 (fun _ h9 => h9) rfl dX6_can_64 ?_
        refine lv_aload_n hx hb dX6_can_67 rfl (lv_at hl 0 rfl) ?_
        refine va_get (D := D) (ci := 5) (C := RX6) (T := TX6) (N := 17) hx hb hts hi6 hown hK hP 0 md_0 rfl 14 (by decide) wd2 (fun _ h9 => h9) rfl dX6_can_68 ?_
        refine roV CF (c_X6_canPick l D cI cC cW t _ _ _ _ _ (thF hsf hth (by rw [c4_112]; decide))) (cwV 2 hts gX6_can_X6_canPick rfl rfl rfl (by decide +kernel) ⟨Nat.le_of_ble_eq_true rfl, Nat.le_of_ble_eq_true rfl⟩) hP hK hX hS 0 5 md_0 rfl rfl hl.1 rfl (Nat.le_of_ble_eq_true rfl) dX6_can_71 ⟨Nat.zero_le _, Nat.zero_le _⟩ ?_
        refine lv_if_eq (tgt := 81) hx hb dX6_can_74 (by decide) (fun c74 => ?_) (fun c74 => ?_)
        · refine lv_iconst (v := 0) hx hb dX6_can_81 (by decide) ?_
          exact ro_zret hx hb hr (rfl) (Eq.trans (if_neg c4_109) (Eq.trans (if_pos c4_112) (Eq.trans (if_neg c59) (Eq.trans (if_pos c74) (rfl))))) dX6_can_82 hlocks
        · refine lv_iconst (v := 1) hx hb dX6_can_77 (by decide) ?_
          refine lv_goto (tgt := 82) hx hb dX6_can_78 (by decide) ?_
          exact ro_zret hx hb hr (rfl) (Eq.trans (if_neg c4_109) (Eq.trans (if_pos c4_112) (Eq.trans (if_neg c59) (Eq.trans (if_neg c74) (rfl))))) dX6_can_82 hlocks
    · by_cases c4_114 : (Z 0 6) = (114 : Int32)
      · refine lv_lookup (off := 79) (tgt := 83) hx hb dX6_can_4 (by decide) (by rw [c4_114]; first | done | rfl) (by decide) ?_
        refine lv_aload_n hx hb dX6_can_83 rfl (lv_at hl 0 rfl) ?_
        refine lv_aload_n hx hb dX6_can_84 rfl (lv_at hl 0 rfl) ?_
        refine va_get (D := D) (ci := 5) (C := RX6) (T := TX6) (N := 17) hx hb hts hi6 hown hK hP 0 md_0 rfl 13 (by decide) wd3 (fun _ h9 => h9) rfl dX6_can_85 ?_
        refine roV CF (c_X6_canRefill l D cI cC cW t _ _ _ _ (thF hsf hth (by rw [c4_114]; decide))) (cwV 1 hts gX6_can_X6_canRefill rfl rfl rfl (by decide +kernel) ⟨Nat.le_of_ble_eq_true rfl, Nat.le_of_ble_eq_true rfl⟩) hP hK hX hS 0 5 md_0 rfl rfl hl.1 rfl (Nat.le_of_ble_eq_true rfl) dX6_can_88 ⟨Nat.zero_le _, Nat.zero_le _⟩ ?_
        exact ro_zret hx hb hr (zb_X6_canRefill) (Eq.trans (if_neg c4_109) (Eq.trans (if_neg c4_112) (Eq.trans (if_pos c4_114) (rfl)))) dX6_can_91 hlocks
      · by_cases c4_120 : (Z 0 6) = (120 : Int32)
        · refine lv_lookup (off := 101) (tgt := 105) hx hb dX6_can_4 (by decide) (by rw [c4_120]; first | done | rfl) (by decide) ?_
          refine lv_aload_n hx hb dX6_can_105 rfl (lv_at hl 0 rfl) ?_
          refine lv_aload_n hx hb dX6_can_106 rfl (lv_at hl 0 rfl) ?_
          refine va_get (D := D) (ci := 5) (C := RX6) (T := TX6) (N := 17) hx hb hts hi6 hown hK hP 0 md_0 rfl 13 (by decide) wd3 (fun _ h9 => h9) rfl dX6_can_107 ?_
          refine lv_aload_n hx hb dX6_can_110 rfl (lv_at hl 0 rfl) ?_
          refine va_get (D := D) (ci := 5) (C := RX6) (T := TX6) (N := 17) hx hb hts hi6 hown hK hP 0 md_0 rfl 14 (by decide) wd2 (fun _ h9 => h9) rfl dX6_can_111 ?_
          refine roV CF (c_X6_canExchange l D cI cC cW t _ _ _ _ _ (thF hsf hth (by rw [c4_120]; decide)) (thS hsf hth c4_120)) (cwV 2 hts gX6_can_X6_canExchange rfl rfl rfl (by decide +kernel) ⟨Nat.le_of_ble_eq_true rfl, Nat.le_of_ble_eq_true rfl⟩) hP hK hX hS 0 5 md_0 rfl rfl hl.1 rfl (Nat.le_of_ble_eq_true rfl) dX6_can_114 ⟨Nat.zero_le _, Nat.zero_le _⟩ ?_
          exact ro_zret hx hb hr (zb_X6_canExchange) (Eq.trans (if_neg c4_109) (Eq.trans (if_neg c4_112) (Eq.trans (if_neg c4_114) (Eq.trans (if_pos c4_120) (rfl))))) dX6_can_117 hlocks
        · refine lv_lookup (off := 114) (tgt := 118) hx hb dX6_can_4 (by decide) ((lv_osw c4_109 (by decide)).trans ((lv_osw c4_112 (by decide)).trans ((lv_osw c4_114 (by decide)).trans ((lv_osw c4_120 (by decide)).trans (rfl))))) (by decide) ?_
          refine lv_aload_n hx hb dX6_can_118 rfl (lv_at hl 0 rfl) ?_
          refine va_get (D := D) (ci := 5) (C := RX6) (T := TX6) (N := 17) hx hb hts hi6 hown hK hP 0 md_0 rfl 0 (by decide) wd4 (fun _ h9 => h9) rfl dX6_can_119 ?_
          refine lv_iconst (v := 1) hx hb dX6_can_122 (by decide) ?_
          refine my_ialdK (k := 1) hx hb hK hP 1 0 md_1 rfl (by decide) (by first | (with_reducible first | assumption | exact m20 (by assumption) (by assumption) | exact ga20 (by assumption) (by assumption) | exact w2 (by assumption) | exact w2 (min4 (by assumption)) | exact w2 (s46 (by assumption)) | exact min4 (by assumption) | exact s46 (by assumption) | exact min11 (by assumption) (by assumption)) | (unfold vp_in; decide) | ((with_reducible (repeat (first | assumption | (refine sf_lays ?_ ?_ ?_; (with_reducible first | assumption | exact m20 (by assumption) (by assumption) | exact ga20 (by assumption) (by assumption)); (with_reducible first | exact v11_0 | exact v11_1 | exact v11_6 | exact v11_7 | exact v11_8 | exact v11_9 | exact v11_10 | exact w2 (by assumption) | exact w2 (min4 (by assumption)))) | (refine sf_adds ?_ ?_; (with_reducible first | exact v8_0 | exact v8_1 | exact v8_2 | exact v8_3 | exact v8_4 | exact v8_5 | exact v8_6 | exact v8_7)) | (refine sf_u (by omega) ?_)))); done)) dX6_can_123 ?_
          refine lv_sipush (v := 1000) hx hb dX6_can_124 (by decide) ?_
          refine lv_icmp_ge (tgt := 134) hx hb dX6_can_127 (by decide) (fun c127 => ?_) (fun c127 => ?_)
          · refine lv_iconst (v := 0) hx hb dX6_can_134 (by decide) ?_
            exact ro_zret hx hb hr (rfl) (Eq.trans (if_neg c4_109) (Eq.trans (if_neg c4_112) (Eq.trans (if_neg c4_114) (Eq.trans (if_neg c4_120) (Eq.trans (if_pos c127) (rfl)))))) dX6_can_135 hlocks
          · refine lv_iconst (v := 1) hx hb dX6_can_130 (by decide) ?_
            refine lv_goto (tgt := 135) hx hb dX6_can_131 (by decide) ?_
            exact ro_zret hx hb hr (rfl) (Eq.trans (if_neg c4_109) (Eq.trans (if_neg c4_112) (Eq.trans (if_neg c4_114) (Eq.trans (if_neg c4_120) (Eq.trans (if_neg c127) (rfl)))))) dX6_can_135 hlocks
theorem zb_X6_can {N : Nat → Int32} {Z : Nat → Nat → Int32} : narrow .boolean (.int (sp_X6_can N Z)) = .int (sp_X6_can N Z) := by
  unfold sp_X6_can
  (repeat' split) <;> first | (with_reducible exact zb_X6_canExchange) | (with_reducible exact zb_X6_canMove) | (with_reducible exact zb_X6_canPick) | (with_reducible exact zb_X6_canRefill) | (with_reducible exact zb_X6_in) | rfl

def lp34_X6_improve (x1 : Int32) : Nat → Int32 → Int32 → (Nat → Int32) → (Nat → Nat → Int32) → Int32 × ((Nat → Int32) × (Nat → Nat → Int32))
  | 0, v2, v3, Nw, Zw => (0, (Nw, Zw))
  | n + 1, v2, v3, Nw, Zw => if x1 ≤ v2 then ((v2, (Nw, Zw))) else (if (Zw 0 4) ≤ 0 then ((v2, (Nw, Zw))) else (let k56_103 : Int32 × (Nat → Int32) := sp_X6_goes Nw Zw (Zw 0 2) (Zw 0 3); let N104 : Nat → Int32 := k56_103.2; let k65_105 : Nat → Nat → Int32 := sp_X6_finds N104 Zw; lp34_X6_improve x1 n (v2 + (1 : Int32)) (v3 + k56_103.1) N104 k65_105))
theorem lp34_X6_improve_s (x1 : Int32) (n : Nat) (v2 : Int32) (v3 : Int32) (Nw : Nat → Int32) (Zw : Nat → Nat → Int32) : lp34_X6_improve x1 (n + 1) v2 v3 Nw Zw = if x1 ≤ v2 then ((v2, (Nw, Zw))) else (if (Zw 0 4) ≤ 0 then ((v2, (Nw, Zw))) else (let k56_103 : Int32 × (Nat → Int32) := sp_X6_goes Nw Zw (Zw 0 2) (Zw 0 3); let N104 : Nat → Int32 := k56_103.2; let k65_105 : Nat → Nat → Int32 := sp_X6_finds N104 Zw; lp34_X6_improve x1 n (v2 + (1 : Int32)) (v3 + k56_103.1) N104 k65_105)) := rfl
def sp_X6_improve (N : Nat → Int32) (Z : Nat → Nat → Int32) (x1 : Int32) : Int32 × ((Nat → Int32) × (Nat → Nat → Int32)) :=
  if (sp_X6_in x1 (1 : Int32) (10 : Int32)) = 0 then (((-1 : Int32), (N, Z))) else (let k13_1 : Nat → Nat → Int32 := sp_X6_finds N Z; if (k13_1 0 4) = 0 then (((-4 : Int32), (N, k13_1))) else (let k27_2 : Nat → Nat → Int32 := sp_X6_records N k13_1; lp34_X6_improve x1 11 (0 : Int32) (0 : Int32) N k27_2))
set_option maxHeartbeats 4000000 in
set_option maxRecDepth 100000 in
theorem c_X6_improve (l : Launch) (D : va_G) (cI cC cW : ClassId) (t : Nat → Nat) (a : Nat → Nat) (sz : Nat) (N : Nat → Int32) (Z : Nat → Nat → Int32) (x1 : Int32) (hsf : sfN N) (hps : psZ Z) : Met l yX6_improve wsX6_improve ({ frames := 5, cells := 0, slots := 0, locals := 114 }) (va_Pc [.ref (a 0), .int x1] (rwP D (tyL cI cC cW) (md cI a N Z) t sz)) (va_Qi (fun (r : Int32) (u : ((Nat → Int32) × (Nat → Nat → Int32))) => (r, u) = sp_X6_improve N Z x1) (fun u => rwB D (va_A (md cI a N Z) sz) (md cI a u.1 u.2)) (va_A (md cI a N Z) sz)) 0 0 (va_A (md cI a N Z) sz) := by
  refine Met.ofW (cc := cX6_improve) (maxL := 4) (ret := (some .int)) (by decide) rfl ?_
  intro p e s m args below meth c s₁ B hml hv
  obtain ⟨rfl, hsz, hP, hK, hD0, hX⟩ := hv
  have hx := B.exec
  have hb := B.bytes
  have hr := B.returns
  have hts := atoms_spec (ws := wsX6_improve) B.pre
  have hown : s.vm.findClass RX6 = some m.cls := findClass_of_methodNamed B.named
  have hlocks := B.notSynchronized
  subst hsz
  have hD := hD0.self (sz := s.heap.size)
  generalize hAe : va_A (md cI a N Z) s.heap.size = A at hD hX ⊢
  have hA : ∀ q : Nat, s.heap.size ≤ q → A q := fun q h => by rw [← hAe]; exact Or.inr h
  have hS : va_S A s.heap s.heap [] := va_S.rf
  have wd1 : (Cond.fieldLink RX6 137 "PickSlotsModel" "bestWorth" "I").before [.ref (a 0), .int x1].toArray s = true := hts _ (List.mem_of_getElem? (i := 1) rfl)
  have wd2 : (Cond.fieldLink RX6 140 "PickSlotsModel" "bestGood" "I").before [.ref (a 0), .int x1].toArray s = true := hts _ (List.mem_of_getElem? (i := 2) rfl)
  have wd3 : (Cond.fieldLink RX6 143 "PickSlotsModel" "bestSlot" "I").before [.ref (a 0), .int x1].toArray s = true := hts _ (List.mem_of_getElem? (i := 3) rfl)
  have hi6 : ∀ w ∈ wsX60, w ∈ wsX6_improve := fun w h => List.mem_cons_of_mem _ (List.mem_append_right _ (h))
  have CF : CallFix p m c cX6_improve 4 s [.ref (a 0), .int x1].toArray wsX6_improve RX6 := ⟨hx, hb, hml, hown, hts⟩
  have hl := lv_entry ([.ref (a 0), .int x1]) (n := 4) (Nat.le_of_ble_eq_true rfl)
  rw [lg_entry_eq]
  generalize (lg_sl ([.ref (a 0), .int x1]) ++ List.replicate (4 - (lg_sl ([.ref (a 0), .int x1])).length) Slot.unset).toArray = ls at hl ⊢
  have hl : lv_has ls 4 [(0, .ref (a 0)), (1, .int x1)] := hl
  refine lv_iload_n hx hb dX6_improve_0 rfl (lv_at hl 1 rfl) ?_
  refine lv_iconst (v := 1) hx hb dX6_improve_1 (by decide) ?_
  refine lv_bipush (v := 10) hx hb dX6_improve_2 (by decide) ?_
  refine roS CF (c_X6_in l D cI cC cW t _ _ _ ) (va_cwS 3 hts gX6_improve_X6_in rfl rfl rfl (by decide +kernel) ⟨Nat.le_of_ble_eq_true rfl, Nat.le_of_ble_eq_true rfl⟩) vP_nil hK hX hS rfl hl.1 rfl (Nat.le_of_ble_eq_true rfl) dX6_improve_4 ⟨Nat.zero_le _, Nat.zero_le _⟩ ?_
  refine lv_if_ne (tgt := 12) hx hb dX6_improve_7 (by decide) (fun c7 => ?_) (fun c7 => ?_)
  · refine lv_aload_n hx hb dX6_improve_12 rfl (lv_at hl 0 rfl) ?_
    refine rwVv CF (c_X6_finds l D cI cC cW t _ _ _ _  (hsf)) (cwV 0 hts gX6_improve_X6_finds rfl rfl rfl (by decide +kernel) ⟨Nat.le_of_ble_eq_true rfl, Nat.le_of_ble_eq_true rfl⟩) hP hD hK hX hS hA 0 5 md_0 rfl rfl hl.1 rfl (Nat.le_of_ble_eq_true rfl) dX6_improve_13 ⟨Nat.zero_le _, Nat.zero_le _⟩ (fun H locs hP hD hS => ?_)
    refine lv_aload_n hx hb dX6_improve_16 rfl (lv_at hl 0 rfl) ?_
    refine va_get (D := D) (ci := 5) (C := RX6) (T := TX6) (N := 17) hx hb hts hi6 hown hK hP 0 md_0 rfl 8 (by decide) wd1 (fun _ h9 => h9) rfl dX6_improve_17 ?_
    refine lv_if_ne (tgt := 26) hx hb dX6_improve_20 (by decide) (fun c20 => ?_) (fun c20 => ?_)
    · refine lv_aload_n hx hb dX6_improve_26 rfl (lv_at hl 0 rfl) ?_
      refine rwVv CF (c_X6_records l D cI cC cW t _ _ _ _  (psq (fnd hsf).1 hps)) (cwV 0 hts gX6_improve_X6_records rfl rfl rfl (by decide +kernel) ⟨Nat.le_of_ble_eq_true rfl, Nat.le_of_ble_eq_true rfl⟩) hP hD hK hX hS hA 0 5 md_0 rfl rfl hl.1 rfl (Nat.le_of_ble_eq_true rfl) dX6_improve_27 ⟨Nat.zero_le _, Nat.zero_le _⟩ (fun H locs hP hD hS => ?_)
      refine lv_iconst (v := 0) hx hb dX6_improve_30 (by decide) ?_
      refine lv_istore_n (lv' := [(2, .int _), (0, .ref _), (1, .int _)]) hx hb dX6_improve_31 rfl hl (by decide) rfl (fun ls hl => ?_)
      refine lv_iconst (v := 0) hx hb dX6_improve_32 (by decide) ?_
      refine lv_istore_n (lv' := [(3, .int _), (2, .int _), (0, .ref _), (1, .int _)]) hx hb dX6_improve_33 rfl hl (by decide) rfl (fun ls hl => ?_)
      have L34 : ∀ (n34 : Nat) (v2 v3 : Int32) (Nw : Nat → Int32) (Zw : Nat → Nat → Int32), (sfN Nw) → (0 < Zw 0 4 → vp_in (Zw 0 2) 20) → (0 ≤ v2.toInt) → (v2.toInt ≤ x1.toInt) → (x1.toInt - v2.toInt < (n34 : Int)) → sp_X6_improve N Z x1 = lp34_X6_improve x1 (n34) v2 v3 Nw Zw → ∀ (ls : Array Slot), lv_has ls 4 [(2, .int v2), (3, .int v3), (0, .ref (a 0)), (1, .int x1)] → ∀ (H : Heap) (locs : List Loc), va_P D vwCl (md cI a Nw Zw) H → va_D A (md cI a Nw Zw) → va_S A s.heap H locs → W p l e (headSpec wsX6_improve ({ frames := 5, cells := 0, slots := 0, locals := 114 } : Room)).room s m [.ref (a 0), .int x1].toArray below meth c H locs 0 0 (MQ below (va_Qi (fun (r : Int32) (u : ((Nat → Int32) × (Nat → Nat → Int32))) => (r, u) = sp_X6_improve N Z x1) (fun u => rwB D A (md cI a u.1 u.2)) A) [.ref (a 0), .int x1].toArray s 0 0 A) (F0 m 34 ls []) := by
        intro n34
        induction n34 with
        | zero => intro v2 v3 Nw Zw hsw hbg i1 i2 im; exfalso; omega
        | succ n34 ih34 =>
          intro v2 v3 Nw Zw hsw hbg i1 i2 im hsp34 ls hl H locs hP hD hS
          refine lv_iload_n hx hb dX6_improve_34 rfl (lv_at hl 0 rfl) ?_
          refine lv_iload_n hx hb dX6_improve_35 rfl (lv_at hl 3 rfl) ?_
          refine lv_icmp_ge (tgt := 71) hx hb dX6_improve_36 (by decide) (fun c36 => ?_) (fun c36 => ?_)
          · refine lv_iload_n hx hb dX6_improve_71 rfl (lv_at hl 0 rfl) ?_
            exact rwM_ret hx hb hr hP hD hS (Eq.trans hsp34 (Eq.trans (lp34_X6_improve_s _ _ _ _ _ _) (Eq.trans (if_pos c36) (rfl)))) dX6_improve_72 hlocks
          · refine lv_aload_n hx hb dX6_improve_39 rfl (lv_at hl 2 rfl) ?_
            refine va_get (D := D) (ci := 5) (C := RX6) (T := TX6) (N := 17) hx hb hts hi6 hown hK hP 0 md_0 rfl 8 (by decide) wd1 (fun _ h9 => h9) rfl dX6_improve_40 ?_
            refine lv_if_le (tgt := 71) hx hb dX6_improve_43 (by decide) (fun c43 => ?_) (fun c43 => ?_)
            · refine lv_iload_n hx hb dX6_improve_71 rfl (lv_at hl 0 rfl) ?_
              exact rwM_ret hx hb hr hP hD hS (Eq.trans hsp34 (Eq.trans (lp34_X6_improve_s _ _ _ _ _ _) (Eq.trans (if_neg c36) (Eq.trans (if_pos c43) (rfl))))) dX6_improve_72 hlocks
            · refine lv_iload_n hx hb dX6_improve_46 rfl (lv_at hl 1 rfl) ?_
              refine lv_aload_n hx hb dX6_improve_47 rfl (lv_at hl 2 rfl) ?_
              refine lv_aload_n hx hb dX6_improve_48 rfl (lv_at hl 2 rfl) ?_
              refine va_get (D := D) (ci := 5) (C := RX6) (T := TX6) (N := 17) hx hb hts hi6 hown hK hP 0 md_0 rfl 6 (by decide) wd2 (fun _ h9 => h9) rfl dX6_improve_49 ?_
              refine lv_aload_n hx hb dX6_improve_52 rfl (lv_at hl 2 rfl) ?_
              refine va_get (D := D) (ci := 5) (C := RX6) (T := TX6) (N := 17) hx hb hts hi6 hown hK hP 0 md_0 rfl 7 (by decide) wd3 (fun _ h9 => h9) rfl dX6_improve_53 ?_
              refine rwV CF (c_X6_goes l D cI cC cW t _ _ _ _ _ _ (hsw) (hbg (gt0 c43))) (cwV 2 hts gX6_improve_X6_goes rfl rfl rfl (by decide +kernel) ⟨Nat.le_of_ble_eq_true rfl, Nat.le_of_ble_eq_true rfl⟩) hP hD hK hX hS hA 0 5 md_0 rfl rfl hl.1 rfl (Nat.le_of_ble_eq_true rfl) dX6_improve_56 ⟨Nat.zero_le _, Nat.zero_le _⟩ (fun H locs hP hD hS => ?_)
              refine lv_iadd hx hb dX6_improve_59 ?_
              refine lv_istore_n (lv' := [(3, .int _), (2, .int _), (0, .ref _), (1, .int _)]) hx hb dX6_improve_60 rfl hl (by decide) rfl (fun ls hl => ?_)
              refine lv_iinc (v := _ + (1 : Int32)) (lv' := [(2, .int _), (3, .int _), (0, .ref _), (1, .int _)]) hx hb dX6_improve_61 hl (k := 1) rfl rfl (by decide) rfl (fun ls hl => ?_)
              refine lv_aload_n hx hb dX6_improve_64 rfl (lv_at hl 2 rfl) ?_
              refine rwVv CF (c_X6_finds l D cI cC cW t _ _ _ _  (k3_sf (k3_goes hsw (hbg (gt0 c43))) hsw)) (cwV 0 hts gX6_improve_X6_finds rfl rfl rfl (by decide +kernel) ⟨Nat.le_of_ble_eq_true rfl, Nat.le_of_ble_eq_true rfl⟩) hP hD hK hX hS hA 0 5 md_0 rfl rfl hl.1 rfl (Nat.le_of_ble_eq_true rfl) dX6_improve_65 ⟨Nat.zero_le _, Nat.zero_le _⟩ (fun H locs hP hD hS => ?_)
              refine lv_goto (tgt := 34) hx hb dX6_improve_68 (by decide) ?_
              exact ih34 _ _ _ _ (k3_sf (k3_goes hsw (hbg (gt0 c43))) hsw) ((fnd (k3_sf (k3_goes hsw (hbg (gt0 c43))) hsw)).2) (cs1 i1 c36) (cs2 c36) (csm c36 im) (Eq.trans hsp34 (Eq.trans (lp34_X6_improve_s _ _ _ _ _ _) (Eq.trans (if_neg c36) (Eq.trans (if_neg c43) (rfl))))) _ (lv_sub hl [0, 1, 2, 3] rfl) _ _ hP hD hS
      exact L34 11 _ _ _ _ (hsf) (by rw [rcq (by decide) (Or.inr (by decide)), rcq (by decide) (Or.inr (by decide))]; exact (fnd hsf).2) (by decide) (t10a c7) (t10b c7) (Eq.trans (if_neg c7) (Eq.trans (if_neg c20) (rfl))) _ (lv_sub hl [1, 0, 2, 3] rfl) _ _ hP hD hS
    · refine lv_bipush (v := -4) hx hb dX6_improve_23 (by decide) ?_
      exact rwM_ret hx hb hr hP hD hS (Eq.trans (if_neg c7) (Eq.trans (if_pos c20) (rfl))) dX6_improve_25 hlocks
  · refine lv_iconst (v := -1) hx hb dX6_improve_10 (by decide) ?_
    exact rwM_ret hx hb hr hP hD hS (Eq.trans (if_pos c7) (rfl)) dX6_improve_11 hlocks
