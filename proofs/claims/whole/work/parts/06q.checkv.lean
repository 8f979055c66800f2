/-! the printed code is the code: decided by program -/
set_option maxRecDepth 100000 in
theorem ab_ok_5 : (ab_mt_5.zip ab_hn_5).all (fun x => ab_okm x.1 x.2) = true := by decide +kernel
theorem ab_okl_5 : ab_mt_5.length = ab_hn_5.length := by decide +kernel
