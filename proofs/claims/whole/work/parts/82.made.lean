/-! what is made at the start -/
def z0H : ex_H := ([cA 0, cA 4, cA 6, cA 6], fun _ _ => 0)
def z0R : Option ex_R := ex_r0 3000 40 241 0 [vR 0, vL 0, vL 0, vL 0] [] z0H
set_option maxRecDepth 1000000 in
theorem z0_ok : decide (z0R.map (fun r => (r.1, r.2.1)) = some (lw_ls 0, cA 0 :: SHT)) = true := by decide +kernel
