/-! the printed code is the code: decided by program -/
set_option maxRecDepth 100000 in
theorem ab_ok_4 : (ab_mt_4.zip ab_hn_4).all (fun x => ab_okm x.1 x.2) = true := by decide +kernel
theorem ab_okl_4 : ab_mt_4.length = ab_hn_4.length := by decide +kernel
