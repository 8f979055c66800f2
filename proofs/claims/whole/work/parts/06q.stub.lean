theorem ab_ok : ∀ (j : Nat) (mi : ab_M), ab_mt[j]? = some mi → (∃ n, ab_okm mi n = true) ∧ Cond.code mi.2.1 mi.2.2.1 mi.2.2.2.1 mi.2.2.2.2.1 ∈ ab_gt := sorry
theorem ab_okc : ∀ (j : Nat) (mi : ab_M), ab_mt[j]? = some mi → mi.2.2.2.2.2.2.all (ab_chk mi.1 mi.2.2.2.1 (decide (mi.2.1.name = "<init>")) mi.2.2.1) = true := sorry
theorem ab_kc_L_law : kL_law.all (ab_chk RL 4 false code) = true := sorry
