/-! ===== p41, pure: the run of the fixed club ===== -/
set_option maxRecDepth 100000 in
theorem e_ok : f_law_e (0 : Int32) (-1 : Int32) (0 : Int32) (0 : Int32) (0 : Int32) (upd (fun _ => 0) (1 : Int32).toNatClampNeg (1000 : Int32)) (0 : Int32) (0 : Int32) (0 : Int32) (0 : Int32) (fun _ => 0) (0 : Int32) (0 : Int32) (0 : Int32) (-1 : Int32) (fun _ => 0) (fun _ => 0) (fun _ => 0) = some () := by decide +kernel
