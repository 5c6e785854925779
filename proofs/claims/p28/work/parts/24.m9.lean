/-! GongCyclesModel() -/
def d_0 : gDt := gD (gD (fun _ _ => 0) 4 (f_cp 32 (fun _ => 0) (fun _ => 44000))) 9 (upd (fun _ => 0) 3 (-1))
