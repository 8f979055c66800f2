/-! the printed code is the code: decided by program -/
set_option maxRecDepth 100000 in
theorem ab_ok_3 : (ab_mt_3.zip ab_hn_3).all (fun x => ab_okm x.1 x.2) = true := by decide +kernel
theorem ab_okl_3 : ab_mt_3.length = ab_hn_3.length := by decide +kernel
