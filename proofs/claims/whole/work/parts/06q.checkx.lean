/-! the printed code is the code, all together -/
theorem ab_kc_L_law : kL_law.all (ab_chk RL 4 false code) = true := by
  simp only [kL_law, List.all_append, ab_kc_L_law_0, ab_kc_L_law_1, ab_kc_L_law_2, ab_kc_L_law_3, ab_kc_L_law_4, ab_kc_L_law_5, ab_kc_L_law_6, ab_kc_L_law_7, ab_kc_L_law_8, ab_kc_L_law_9, ab_kc_L_law_10, ab_kc_L_law_11, ab_kc_L_law_12, ab_kc_L_law_13, ab_kc_L_law_14, ab_kc_L_law_15, ab_kc_L_law_16, Bool.and_self]
theorem ab_ok_of {a : List ab_M} {b : List (Nat × Nat × Nat × Nat)} (h : (a.zip b).all (fun x => ab_okm x.1 x.2) = true) (hl : a.length = b.length) : ∀ mi ∈ a, ∃ n, ab_okm mi n = true := by
  intro mi hm
  obtain ⟨i, hi, rfl⟩ := List.getElem_of_mem hm
  have hb : i < b.length := hl ▸ hi
  refine ⟨b[i], List.all_eq_true.mp h (a[i], b[i]) ?_⟩
  have hz : i < (a.zip b).length := by rw [List.length_zip]; omega
  have : (a.zip b)[i] = (a[i], b[i]) := List.getElem_zip
  rw [← this]
  exact List.getElem_mem hz
theorem ab_ok : ∀ (j : Nat) (mi : ab_M), ab_mt[j]? = some mi → (∃ n, ab_okm mi n = true) ∧ Cond.code mi.2.1 mi.2.2.1 mi.2.2.2.1 mi.2.2.2.2.1 ∈ ab_gt := by
  intro j mi h
  have hm := List.mem_of_getElem? h
  simp only [ab_mt, List.mem_append] at hm
  rcases hm with h | h | h | h | h | h
  · exact ⟨ab_ok_of ab_ok_0 ab_okl_0 mi h, ab_okw_0 mi h⟩
  · exact ⟨ab_ok_of ab_ok_1 ab_okl_1 mi h, ab_okw_1 mi h⟩
  · exact ⟨ab_ok_of ab_ok_2 ab_okl_2 mi h, ab_okw_2 mi h⟩
  · exact ⟨ab_ok_of ab_ok_3 ab_okl_3 mi h, ab_okw_3 mi h⟩
  · exact ⟨ab_ok_of ab_ok_4 ab_okl_4 mi h, ab_okw_4 mi h⟩
  · exact ⟨ab_ok_of ab_ok_5 ab_okl_5 mi h, ab_okw_5 mi h⟩
theorem ab_okc : ∀ (j : Nat) (mi : ab_M), ab_mt[j]? = some mi → mi.2.2.2.2.2.2.all (ab_chk mi.1 mi.2.2.2.1 (decide (mi.2.1.name = "<init>")) mi.2.2.1) = true := by
  intro j mi h
  have hm := List.mem_of_getElem? h
  simp only [ab_mt, List.mem_append] at hm
  rcases hm with h | h | h | h | h | h
  · exact ab_okc_0 mi h
  · exact ab_okc_1 mi h
  · exact ab_okc_2 mi h
  · exact ab_okc_3 mi h
  · exact ab_okc_4 mi h
  · exact ab_okc_5 mi h
