/-! by program: each method as a function over the memory, and that our machine does it -/
set_option maxRecDepth 20000 in
def f_X9_readLine (F : Nat)   (μ : fm_M) : Option (Unit × fm_M) := (Option.bind (f_X9_nameHere F μ) (fun q1 => (Option.bind (f_X9_in F ((q1.1).toInt64) (Int64.ofNat 0) (Int64.ofNat 8) q1.2) (fun q3 => (if ¬ q3.1 = 0 then (if 3 < q1.1 then (if ¬ q1.1 = 4 then (if ¬ q1.1 = 5 then (Option.bind (f_X9_in F ((q1.1).toInt64) (Int64.ofNat 6) (Int64.ofNat 7) q3.2) (fun q9 => (if q9.1 = 0 then (Option.bind (some (fm_sI q9.2 232 9 ((q9.2.1 232 9) ||| (1 <<< (q1.1 &&& 31))))) (fun m12 => (Option.bind (f_X9_step F m12) (fun q14 => (if (q14.2.1 232 15) ≤ 0 then (Option.bind (f_X9_readMore F q1.1 q14.2) (fun q17 => (if ¬ (q17.2.1 232 15) = 0 then (Option.bind (f_X9_step F q17.2) (fun q20 => some ((), q20.2))) else (if (q17.2.1 232 19) = 3 then (Option.bind (f_X9_step F q17.2) (fun q23 => some ((), q23.2))) else (Option.bind (f_X9_fails F 2 q17.2) (fun q25 => (Option.bind (f_X9_step F q25.2) (fun q27 => some ((), q27.2))))))))) else some ((), q14.2)))))) else (if ¬ (((q9.2.1 232 9) >>> (q1.1 &&& 31)) &&& 1) = 1 then (Option.bind (some (fm_sI q9.2 232 9 ((q9.2.1 232 9) ||| (1 <<< (q1.1 &&& 31))))) (fun m30 => (Option.bind (f_X9_step F m30) (fun q32 => (if (q32.2.1 232 15) ≤ 0 then (Option.bind (f_X9_readMore F q1.1 q32.2) (fun q35 => (if ¬ (q35.2.1 232 15) = 0 then (Option.bind (f_X9_step F q35.2) (fun q38 => some ((), q38.2))) else (if (q35.2.1 232 19) = 3 then (Option.bind (f_X9_step F q35.2) (fun q41 => some ((), q41.2))) else (Option.bind (f_X9_fails F 2 q35.2) (fun q43 => (Option.bind (f_X9_step F q43.2) (fun q45 => some ((), q45.2))))))))) else some ((), q32.2)))))) else (Option.bind (f_X9_fails F 4 q9.2) (fun q47 => (Option.bind (some (fm_sI q47.2 232 9 ((q47.2.1 232 9) ||| (1 <<< (q1.1 &&& 31))))) (fun m49 => (Option.bind (f_X9_step F m49) (fun q51 => (if (q51.2.1 232 15) ≤ 0 then (Option.bind (f_X9_readMore F q1.1 q51.2) (fun q54 => (if ¬ (q54.2.1 232 15) = 0 then (Option.bind (f_X9_step F q54.2) (fun q57 => some ((), q57.2))) else (if (q54.2.1 232 19) = 3 then (Option.bind (f_X9_step F q54.2) (fun q60 => some ((), q60.2))) else (Option.bind (f_X9_fails F 2 q54.2) (fun q62 => (Option.bind (f_X9_step F q62.2) (fun q64 => some ((), q64.2))))))))) else some ((), q51.2)))))))))))) else (if ¬ (q3.2.1 232 8) = 4 then (Option.bind (f_X9_in F ((q1.1).toInt64) (Int64.ofNat 6) (Int64.ofNat 7) q3.2) (fun q67 => (if q67.1 = 0 then (Option.bind (some (fm_sI q67.2 232 9 ((q67.2.1 232 9) ||| (1 <<< (q1.1 &&& 31))))) (fun m70 => (Option.bind (f_X9_step F m70) (fun q72 => (if (q72.2.1 232 15) ≤ 0 then (Option.bind (f_X9_readMore F q1.1 q72.2) (fun q75 => (if ¬ (q75.2.1 232 15) = 0 then (Option.bind (f_X9_step F q75.2) (fun q78 => some ((), q78.2))) else (if (q75.2.1 232 19) = 3 then (Option.bind (f_X9_step F q75.2) (fun q81 => some ((), q81.2))) else (Option.bind (f_X9_fails F 2 q75.2) (fun q83 => (Option.bind (f_X9_step F q83.2) (fun q85 => some ((), q85.2))))))))) else some ((), q72.2)))))) else (if ¬ (((q67.2.1 232 9) >>> (q1.1 &&& 31)) &&& 1) = 1 then (Option.bind (some (fm_sI q67.2 232 9 ((q67.2.1 232 9) ||| (1 <<< (q1.1 &&& 31))))) (fun m88 => (Option.bind (f_X9_step F m88) (fun q90 => (if (q90.2.1 232 15) ≤ 0 then (Option.bind (f_X9_readMore F q1.1 q90.2) (fun q93 => (if ¬ (q93.2.1 232 15) = 0 then (Option.bind (f_X9_step F q93.2) (fun q96 => some ((), q96.2))) else (if (q93.2.1 232 19) = 3 then (Option.bind (f_X9_step F q93.2) (fun q99 => some ((), q99.2))) else (Option.bind (f_X9_fails F 2 q93.2) (fun q101 => (Option.bind (f_X9_step F q101.2) (fun q103 => some ((), q103.2))))))))) else some ((), q90.2)))))) else (Option.bind (f_X9_fails F 4 q67.2) (fun q105 => (Option.bind (some (fm_sI q105.2 232 9 ((q105.2.1 232 9) ||| (1 <<< (q1.1 &&& 31))))) (fun m107 => (Option.bind (f_X9_step F m107) (fun q109 => (if (q109.2.1 232 15) ≤ 0 then (Option.bind (f_X9_readMore F q1.1 q109.2) (fun q112 => (if ¬ (q112.2.1 232 15) = 0 then (Option.bind (f_X9_step F q112.2) (fun q115 => some ((), q115.2))) else (if (q112.2.1 232 19) = 3 then (Option.bind (f_X9_step F q112.2) (fun q118 => some ((), q118.2))) else (Option.bind (f_X9_fails F 2 q112.2) (fun q120 => (Option.bind (f_X9_step F q120.2) (fun q122 => some ((), q122.2))))))))) else some ((), q109.2)))))))))))) else (Option.bind (f_X9_fails F 5 q3.2) (fun q124 => (Option.bind (f_X9_in F ((q1.1).toInt64) (Int64.ofNat 6) (Int64.ofNat 7) q124.2) (fun q126 => (if q126.1 = 0 then (Option.bind (some (fm_sI q126.2 232 9 ((q126.2.1 232 9) ||| (1 <<< (q1.1 &&& 31))))) (fun m129 => (Option.bind (f_X9_step F m129) (fun q131 => (if (q131.2.1 232 15) ≤ 0 then (Option.bind (f_X9_readMore F q1.1 q131.2) (fun q134 => (if ¬ (q134.2.1 232 15) = 0 then (Option.bind (f_X9_step F q134.2) (fun q137 => some ((), q137.2))) else (if (q134.2.1 232 19) = 3 then (Option.bind (f_X9_step F q134.2) (fun q140 => some ((), q140.2))) else (Option.bind (f_X9_fails F 2 q134.2) (fun q142 => (Option.bind (f_X9_step F q142.2) (fun q144 => some ((), q144.2))))))))) else some ((), q131.2)))))) else (if ¬ (((q126.2.1 232 9) >>> (q1.1 &&& 31)) &&& 1) = 1 then (Option.bind (some (fm_sI q126.2 232 9 ((q126.2.1 232 9) ||| (1 <<< (q1.1 &&& 31))))) (fun m147 => (Option.bind (f_X9_step F m147) (fun q149 => (if (q149.2.1 232 15) ≤ 0 then (Option.bind (f_X9_readMore F q1.1 q149.2) (fun q152 => (if ¬ (q152.2.1 232 15) = 0 then (Option.bind (f_X9_step F q152.2) (fun q155 => some ((), q155.2))) else (if (q152.2.1 232 19) = 3 then (Option.bind (f_X9_step F q152.2) (fun q158 => some ((), q158.2))) else (Option.bind (f_X9_fails F 2 q152.2) (fun q160 => (Option.bind (f_X9_step F q160.2) (fun q162 => some ((), q162.2))))))))) else some ((), q149.2)))))) else (Option.bind (f_X9_fails F 4 q126.2) (fun q164 => (Option.bind (some (fm_sI q164.2 232 9 ((q164.2.1 232 9) ||| (1 <<< (q1.1 &&& 31))))) (fun m166 => (Option.bind (f_X9_step F m166) (fun q168 => (if (q168.2.1 232 15) ≤ 0 then (Option.bind (f_X9_readMore F q1.1 q168.2) (fun q171 => (if ¬ (q171.2.1 232 15) = 0 then (Option.bind (f_X9_step F q171.2) (fun q174 => some ((), q174.2))) else (if (q171.2.1 232 19) = 3 then (Option.bind (f_X9_step F q171.2) (fun q177 => some ((), q177.2))) else (Option.bind (f_X9_fails F 2 q171.2) (fun q179 => (Option.bind (f_X9_step F q179.2) (fun q181 => some ((), q181.2))))))))) else some ((), q168.2)))))))))))))))) else (if (q3.2.1 232 7) = 4 then (Option.bind (f_X9_fails F 5 q3.2) (fun q184 => (Option.bind (f_X9_in F ((q1.1).toInt64) (Int64.ofNat 6) (Int64.ofNat 7) q184.2) (fun q186 => (if q186.1 = 0 then (Option.bind (some (fm_sI q186.2 232 9 ((q186.2.1 232 9) ||| (1 <<< (q1.1 &&& 31))))) (fun m189 => (Option.bind (f_X9_step F m189) (fun q191 => (if (q191.2.1 232 15) ≤ 0 then (Option.bind (f_X9_readMore F q1.1 q191.2) (fun q194 => (if ¬ (q194.2.1 232 15) = 0 then (Option.bind (f_X9_step F q194.2) (fun q197 => some ((), q197.2))) else (if (q194.2.1 232 19) = 3 then (Option.bind (f_X9_step F q194.2) (fun q200 => some ((), q200.2))) else (Option.bind (f_X9_fails F 2 q194.2) (fun q202 => (Option.bind (f_X9_step F q202.2) (fun q204 => some ((), q204.2))))))))) else some ((), q191.2)))))) else (if ¬ (((q186.2.1 232 9) >>> (q1.1 &&& 31)) &&& 1) = 1 then (Option.bind (some (fm_sI q186.2 232 9 ((q186.2.1 232 9) ||| (1 <<< (q1.1 &&& 31))))) (fun m207 => (Option.bind (f_X9_step F m207) (fun q209 => (if (q209.2.1 232 15) ≤ 0 then (Option.bind (f_X9_readMore F q1.1 q209.2) (fun q212 => (if ¬ (q212.2.1 232 15) = 0 then (Option.bind (f_X9_step F q212.2) (fun q215 => some ((), q215.2))) else (if (q212.2.1 232 19) = 3 then (Option.bind (f_X9_step F q212.2) (fun q218 => some ((), q218.2))) else (Option.bind (f_X9_fails F 2 q212.2) (fun q220 => (Option.bind (f_X9_step F q220.2) (fun q222 => some ((), q222.2))))))))) else some ((), q209.2)))))) else (Option.bind (f_X9_fails F 4 q186.2) (fun q224 => (Option.bind (some (fm_sI q224.2 232 9 ((q224.2.1 232 9) ||| (1 <<< (q1.1 &&& 31))))) (fun m226 => (Option.bind (f_X9_step F m226) (fun q228 => (if (q228.2.1 232 15) ≤ 0 then (Option.bind (f_X9_readMore F q1.1 q228.2) (fun q231 => (if ¬ (q231.2.1 232 15) = 0 then (Option.bind (f_X9_step F q231.2) (fun q234 => some ((), q234.2))) else (if (q231.2.1 232 19) = 3 then (Option.bind (f_X9_step F q231.2) (fun q237 => some ((), q237.2))) else (Option.bind (f_X9_fails F 2 q231.2) (fun q239 => (Option.bind (f_X9_step F q239.2) (fun q241 => some ((), q241.2))))))))) else some ((), q228.2)))))))))))))) else (if ¬ q1.1 = 5 then (Option.bind (f_X9_in F ((q1.1).toInt64) (Int64.ofNat 6) (Int64.ofNat 7) q3.2) (fun q244 => (if q244.1 = 0 then (Option.bind (some (fm_sI q244.2 232 9 ((q244.2.1 232 9) ||| (1 <<< (q1.1 &&& 31))))) (fun m247 => (Option.bind (f_X9_step F m247) (fun q249 => (if (q249.2.1 232 15) ≤ 0 then (Option.bind (f_X9_readMore F q1.1 q249.2) (fun q252 => (if ¬ (q252.2.1 232 15) = 0 then (Option.bind (f_X9_step F q252.2) (fun q255 => some ((), q255.2))) else (if (q252.2.1 232 19) = 3 then (Option.bind (f_X9_step F q252.2) (fun q258 => some ((), q258.2))) else (Option.bind (f_X9_fails F 2 q252.2) (fun q260 => (Option.bind (f_X9_step F q260.2) (fun q262 => some ((), q262.2))))))))) else some ((), q249.2)))))) else (if ¬ (((q244.2.1 232 9) >>> (q1.1 &&& 31)) &&& 1) = 1 then (Option.bind (some (fm_sI q244.2 232 9 ((q244.2.1 232 9) ||| (1 <<< (q1.1 &&& 31))))) (fun m265 => (Option.bind (f_X9_step F m265) (fun q267 => (if (q267.2.1 232 15) ≤ 0 then (Option.bind (f_X9_readMore F q1.1 q267.2) (fun q270 => (if ¬ (q270.2.1 232 15) = 0 then (Option.bind (f_X9_step F q270.2) (fun q273 => some ((), q273.2))) else (if (q270.2.1 232 19) = 3 then (Option.bind (f_X9_step F q270.2) (fun q276 => some ((), q276.2))) else (Option.bind (f_X9_fails F 2 q270.2) (fun q278 => (Option.bind (f_X9_step F q278.2) (fun q280 => some ((), q280.2))))))))) else some ((), q267.2)))))) else (Option.bind (f_X9_fails F 4 q244.2) (fun q282 => (Option.bind (some (fm_sI q282.2 232 9 ((q282.2.1 232 9) ||| (1 <<< (q1.1 &&& 31))))) (fun m284 => (Option.bind (f_X9_step F m284) (fun q286 => (if (q286.2.1 232 15) ≤ 0 then (Option.bind (f_X9_readMore F q1.1 q286.2) (fun q289 => (if ¬ (q289.2.1 232 15) = 0 then (Option.bind (f_X9_step F q289.2) (fun q292 => some ((), q292.2))) else (if (q289.2.1 232 19) = 3 then (Option.bind (f_X9_step F q289.2) (fun q295 => some ((), q295.2))) else (Option.bind (f_X9_fails F 2 q289.2) (fun q297 => (Option.bind (f_X9_step F q297.2) (fun q299 => some ((), q299.2))))))))) else some ((), q286.2)))))))))))) else (if ¬ (q3.2.1 232 8) = 4 then (Option.bind (f_X9_in F ((q1.1).toInt64) (Int64.ofNat 6) (Int64.ofNat 7) q3.2) (fun q302 => (if q302.1 = 0 then (Option.bind (some (fm_sI q302.2 232 9 ((q302.2.1 232 9) ||| (1 <<< (q1.1 &&& 31))))) (fun m305 => (Option.bind (f_X9_step F m305) (fun q307 => (if (q307.2.1 232 15) ≤ 0 then (Option.bind (f_X9_readMore F q1.1 q307.2) (fun q310 => (if ¬ (q310.2.1 232 15) = 0 then (Option.bind (f_X9_step F q310.2) (fun q313 => some ((), q313.2))) else (if (q310.2.1 232 19) = 3 then (Option.bind (f_X9_step F q310.2) (fun q316 => some ((), q316.2))) else (Option.bind (f_X9_fails F 2 q310.2) (fun q318 => (Option.bind (f_X9_step F q318.2) (fun q320 => some ((), q320.2))))))))) else some ((), q307.2)))))) else (if ¬ (((q302.2.1 232 9) >>> (q1.1 &&& 31)) &&& 1) = 1 then (Option.bind (some (fm_sI q302.2 232 9 ((q302.2.1 232 9) ||| (1 <<< (q1.1 &&& 31))))) (fun m323 => (Option.bind (f_X9_step F m323) (fun q325 => (if (q325.2.1 232 15) ≤ 0 then (Option.bind (f_X9_readMore F q1.1 q325.2) (fun q328 => (if ¬ (q328.2.1 232 15) = 0 then (Option.bind (f_X9_step F q328.2) (fun q331 => some ((), q331.2))) else (if (q328.2.1 232 19) = 3 then (Option.bind (f_X9_step F q328.2) (fun q334 => some ((), q334.2))) else (Option.bind (f_X9_fails F 2 q328.2) (fun q336 => (Option.bind (f_X9_step F q336.2) (fun q338 => some ((), q338.2))))))))) else some ((), q325.2)))))) else (Option.bind (f_X9_fails F 4 q302.2) (fun q340 => (Option.bind (some (fm_sI q340.2 232 9 ((q340.2.1 232 9) ||| (1 <<< (q1.1 &&& 31))))) (fun m342 => (Option.bind (f_X9_step F m342) (fun q344 => (if (q344.2.1 232 15) ≤ 0 then (Option.bind (f_X9_readMore F q1.1 q344.2) (fun q347 => (if ¬ (q347.2.1 232 15) = 0 then (Option.bind (f_X9_step F q347.2) (fun q350 => some ((), q350.2))) else (if (q347.2.1 232 19) = 3 then (Option.bind (f_X9_step F q347.2) (fun q353 => some ((), q353.2))) else (Option.bind (f_X9_fails F 2 q347.2) (fun q355 => (Option.bind (f_X9_step F q355.2) (fun q357 => some ((), q357.2))))))))) else some ((), q344.2)))))))))))) else (Option.bind (f_X9_fails F 5 q3.2) (fun q359 => (Option.bind (f_X9_in F ((q1.1).toInt64) (Int64.ofNat 6) (Int64.ofNat 7) q359.2) (fun q361 => (if q361.1 = 0 then (Option.bind (some (fm_sI q361.2 232 9 ((q361.2.1 232 9) ||| (1 <<< (q1.1 &&& 31))))) (fun m364 => (Option.bind (f_X9_step F m364) (fun q366 => (if (q366.2.1 232 15) ≤ 0 then (Option.bind (f_X9_readMore F q1.1 q366.2) (fun q369 => (if ¬ (q369.2.1 232 15) = 0 then (Option.bind (f_X9_step F q369.2) (fun q372 => some ((), q372.2))) else (if (q369.2.1 232 19) = 3 then (Option.bind (f_X9_step F q369.2) (fun q375 => some ((), q375.2))) else (Option.bind (f_X9_fails F 2 q369.2) (fun q377 => (Option.bind (f_X9_step F q377.2) (fun q379 => some ((), q379.2))))))))) else some ((), q366.2)))))) else (if ¬ (((q361.2.1 232 9) >>> (q1.1 &&& 31)) &&& 1) = 1 then (Option.bind (some (fm_sI q361.2 232 9 ((q361.2.1 232 9) ||| (1 <<< (q1.1 &&& 31))))) (fun m382 => (Option.bind (f_X9_step F m382) (fun q384 => (if (q384.2.1 232 15) ≤ 0 then (Option.bind (f_X9_readMore F q1.1 q384.2) (fun q387 => (if ¬ (q387.2.1 232 15) = 0 then (Option.bind (f_X9_step F q387.2) (fun q390 => some ((), q390.2))) else (if (q387.2.1 232 19) = 3 then (Option.bind (f_X9_step F q387.2) (fun q393 => some ((), q393.2))) else (Option.bind (f_X9_fails F 2 q387.2) (fun q395 => (Option.bind (f_X9_step F q395.2) (fun q397 => some ((), q397.2))))))))) else some ((), q384.2)))))) else (Option.bind (f_X9_fails F 4 q361.2) (fun q399 => (Option.bind (some (fm_sI q399.2 232 9 ((q399.2.1 232 9) ||| (1 <<< (q1.1 &&& 31))))) (fun m401 => (Option.bind (f_X9_step F m401) (fun q403 => (if (q403.2.1 232 15) ≤ 0 then (Option.bind (f_X9_readMore F q1.1 q403.2) (fun q406 => (if ¬ (q406.2.1 232 15) = 0 then (Option.bind (f_X9_step F q406.2) (fun q409 => some ((), q409.2))) else (if (q406.2.1 232 19) = 3 then (Option.bind (f_X9_step F q406.2) (fun q412 => some ((), q412.2))) else (Option.bind (f_X9_fails F 2 q406.2) (fun q414 => (Option.bind (f_X9_step F q414.2) (fun q416 => some ((), q416.2))))))))) else some ((), q403.2)))))))))))))))))) else (if ab_in 23 38 = true then (if (q3.2.2.1 236 (23 : Int32).toNatClampNeg) = 5 then (Option.bind (f_X9_fails F 5 q3.2) (fun q420 => (Option.bind (f_X9_in F ((q1.1).toInt64) (Int64.ofNat 6) (Int64.ofNat 7) q420.2) (fun q422 => (if q422.1 = 0 then (Option.bind (some (fm_sI q422.2 232 9 ((q422.2.1 232 9) ||| (1 <<< (q1.1 &&& 31))))) (fun m425 => (Option.bind (f_X9_step F m425) (fun q427 => (if (q427.2.1 232 15) ≤ 0 then (Option.bind (f_X9_readMore F q1.1 q427.2) (fun q430 => (if ¬ (q430.2.1 232 15) = 0 then (Option.bind (f_X9_step F q430.2) (fun q433 => some ((), q433.2))) else (if (q430.2.1 232 19) = 3 then (Option.bind (f_X9_step F q430.2) (fun q436 => some ((), q436.2))) else (Option.bind (f_X9_fails F 2 q430.2) (fun q438 => (Option.bind (f_X9_step F q438.2) (fun q440 => some ((), q440.2))))))))) else some ((), q427.2)))))) else (if ¬ (((q422.2.1 232 9) >>> (q1.1 &&& 31)) &&& 1) = 1 then (Option.bind (some (fm_sI q422.2 232 9 ((q422.2.1 232 9) ||| (1 <<< (q1.1 &&& 31))))) (fun m443 => (Option.bind (f_X9_step F m443) (fun q445 => (if (q445.2.1 232 15) ≤ 0 then (Option.bind (f_X9_readMore F q1.1 q445.2) (fun q448 => (if ¬ (q448.2.1 232 15) = 0 then (Option.bind (f_X9_step F q448.2) (fun q451 => some ((), q451.2))) else (if (q448.2.1 232 19) = 3 then (Option.bind (f_X9_step F q448.2) (fun q454 => some ((), q454.2))) else (Option.bind (f_X9_fails F 2 q448.2) (fun q456 => (Option.bind (f_X9_step F q456.2) (fun q458 => some ((), q458.2))))))))) else some ((), q445.2)))))) else (Option.bind (f_X9_fails F 4 q422.2) (fun q460 => (Option.bind (some (fm_sI q460.2 232 9 ((q460.2.1 232 9) ||| (1 <<< (q1.1 &&& 31))))) (fun m462 => (Option.bind (f_X9_step F m462) (fun q464 => (if (q464.2.1 232 15) ≤ 0 then (Option.bind (f_X9_readMore F q1.1 q464.2) (fun q467 => (if ¬ (q467.2.1 232 15) = 0 then (Option.bind (f_X9_step F q467.2) (fun q470 => some ((), q470.2))) else (if (q467.2.1 232 19) = 3 then (Option.bind (f_X9_step F q467.2) (fun q473 => some ((), q473.2))) else (Option.bind (f_X9_fails F 2 q467.2) (fun q475 => (Option.bind (f_X9_step F q475.2) (fun q477 => some ((), q477.2))))))))) else some ((), q464.2)))))))))))))) else (if ¬ q1.1 = 4 then (if ¬ q1.1 = 5 then (Option.bind (f_X9_in F ((q1.1).toInt64) (Int64.ofNat 6) (Int64.ofNat 7) q3.2) (fun q481 => (if q481.1 = 0 then (Option.bind (some (fm_sI q481.2 232 9 ((q481.2.1 232 9) ||| (1 <<< (q1.1 &&& 31))))) (fun m484 => (Option.bind (f_X9_step F m484) (fun q486 => (if (q486.2.1 232 15) ≤ 0 then (Option.bind (f_X9_readMore F q1.1 q486.2) (fun q489 => (if ¬ (q489.2.1 232 15) = 0 then (Option.bind (f_X9_step F q489.2) (fun q492 => some ((), q492.2))) else (if (q489.2.1 232 19) = 3 then (Option.bind (f_X9_step F q489.2) (fun q495 => some ((), q495.2))) else (Option.bind (f_X9_fails F 2 q489.2) (fun q497 => (Option.bind (f_X9_step F q497.2) (fun q499 => some ((), q499.2))))))))) else some ((), q486.2)))))) else (if ¬ (((q481.2.1 232 9) >>> (q1.1 &&& 31)) &&& 1) = 1 then (Option.bind (some (fm_sI q481.2 232 9 ((q481.2.1 232 9) ||| (1 <<< (q1.1 &&& 31))))) (fun m502 => (Option.bind (f_X9_step F m502) (fun q504 => (if (q504.2.1 232 15) ≤ 0 then (Option.bind (f_X9_readMore F q1.1 q504.2) (fun q507 => (if ¬ (q507.2.1 232 15) = 0 then (Option.bind (f_X9_step F q507.2) (fun q510 => some ((), q510.2))) else (if (q507.2.1 232 19) = 3 then (Option.bind (f_X9_step F q507.2) (fun q513 => some ((), q513.2))) else (Option.bind (f_X9_fails F 2 q507.2) (fun q515 => (Option.bind (f_X9_step F q515.2) (fun q517 => some ((), q517.2))))))))) else some ((), q504.2)))))) else (Option.bind (f_X9_fails F 4 q481.2) (fun q519 => (Option.bind (some (fm_sI q519.2 232 9 ((q519.2.1 232 9) ||| (1 <<< (q1.1 &&& 31))))) (fun m521 => (Option.bind (f_X9_step F m521) (fun q523 => (if (q523.2.1 232 15) ≤ 0 then (Option.bind (f_X9_readMore F q1.1 q523.2) (fun q526 => (if ¬ (q526.2.1 232 15) = 0 then (Option.bind (f_X9_step F q526.2) (fun q529 => some ((), q529.2))) else (if (q526.2.1 232 19) = 3 then (Option.bind (f_X9_step F q526.2) (fun q532 => some ((), q532.2))) else (Option.bind (f_X9_fails F 2 q526.2) (fun q534 => (Option.bind (f_X9_step F q534.2) (fun q536 => some ((), q536.2))))))))) else some ((), q523.2)))))))))))) else (if ¬ (q3.2.1 232 8) = 4 then (Option.bind (f_X9_in F ((q1.1).toInt64) (Int64.ofNat 6) (Int64.ofNat 7) q3.2) (fun q539 => (if q539.1 = 0 then (Option.bind (some (fm_sI q539.2 232 9 ((q539.2.1 232 9) ||| (1 <<< (q1.1 &&& 31))))) (fun m542 => (Option.bind (f_X9_step F m542) (fun q544 => (if (q544.2.1 232 15) ≤ 0 then (Option.bind (f_X9_readMore F q1.1 q544.2) (fun q547 => (if ¬ (q547.2.1 232 15) = 0 then (Option.bind (f_X9_step F q547.2) (fun q550 => some ((), q550.2))) else (if (q547.2.1 232 19) = 3 then (Option.bind (f_X9_step F q547.2) (fun q553 => some ((), q553.2))) else (Option.bind (f_X9_fails F 2 q547.2) (fun q555 => (Option.bind (f_X9_step F q555.2) (fun q557 => some ((), q557.2))))))))) else some ((), q544.2)))))) else (if ¬ (((q539.2.1 232 9) >>> (q1.1 &&& 31)) &&& 1) = 1 then (Option.bind (some (fm_sI q539.2 232 9 ((q539.2.1 232 9) ||| (1 <<< (q1.1 &&& 31))))) (fun m560 => (Option.bind (f_X9_step F m560) (fun q562 => (if (q562.2.1 232 15) ≤ 0 then (Option.bind (f_X9_readMore F q1.1 q562.2) (fun q565 => (if ¬ (q565.2.1 232 15) = 0 then (Option.bind (f_X9_step F q565.2) (fun q568 => some ((), q568.2))) else (if (q565.2.1 232 19) = 3 then (Option.bind (f_X9_step F q565.2) (fun q571 => some ((), q571.2))) else (Option.bind (f_X9_fails F 2 q565.2) (fun q573 => (Option.bind (f_X9_step F q573.2) (fun q575 => some ((), q575.2))))))))) else some ((), q562.2)))))) else (Option.bind (f_X9_fails F 4 q539.2) (fun q577 => (Option.bind (some (fm_sI q577.2 232 9 ((q577.2.1 232 9) ||| (1 <<< (q1.1 &&& 31))))) (fun m579 => (Option.bind (f_X9_step F m579) (fun q581 => (if (q581.2.1 232 15) ≤ 0 then (Option.bind (f_X9_readMore F q1.1 q581.2) (fun q584 => (if ¬ (q584.2.1 232 15) = 0 then (Option.bind (f_X9_step F q584.2) (fun q587 => some ((), q587.2))) else (if (q584.2.1 232 19) = 3 then (Option.bind (f_X9_step F q584.2) (fun q590 => some ((), q590.2))) else (Option.bind (f_X9_fails F 2 q584.2) (fun q592 => (Option.bind (f_X9_step F q592.2) (fun q594 => some ((), q594.2))))))))) else some ((), q581.2)))))))))))) else (Option.bind (f_X9_fails F 5 q3.2) (fun q596 => (Option.bind (f_X9_in F ((q1.1).toInt64) (Int64.ofNat 6) (Int64.ofNat 7) q596.2) (fun q598 => (if q598.1 = 0 then (Option.bind (some (fm_sI q598.2 232 9 ((q598.2.1 232 9) ||| (1 <<< (q1.1 &&& 31))))) (fun m601 => (Option.bind (f_X9_step F m601) (fun q603 => (if (q603.2.1 232 15) ≤ 0 then (Option.bind (f_X9_readMore F q1.1 q603.2) (fun q606 => (if ¬ (q606.2.1 232 15) = 0 then (Option.bind (f_X9_step F q606.2) (fun q609 => some ((), q609.2))) else (if (q606.2.1 232 19) = 3 then (Option.bind (f_X9_step F q606.2) (fun q612 => some ((), q612.2))) else (Option.bind (f_X9_fails F 2 q606.2) (fun q614 => (Option.bind (f_X9_step F q614.2) (fun q616 => some ((), q616.2))))))))) else some ((), q603.2)))))) else (if ¬ (((q598.2.1 232 9) >>> (q1.1 &&& 31)) &&& 1) = 1 then (Option.bind (some (fm_sI q598.2 232 9 ((q598.2.1 232 9) ||| (1 <<< (q1.1 &&& 31))))) (fun m619 => (Option.bind (f_X9_step F m619) (fun q621 => (if (q621.2.1 232 15) ≤ 0 then (Option.bind (f_X9_readMore F q1.1 q621.2) (fun q624 => (if ¬ (q624.2.1 232 15) = 0 then (Option.bind (f_X9_step F q624.2) (fun q627 => some ((), q627.2))) else (if (q624.2.1 232 19) = 3 then (Option.bind (f_X9_step F q624.2) (fun q630 => some ((), q630.2))) else (Option.bind (f_X9_fails F 2 q624.2) (fun q632 => (Option.bind (f_X9_step F q632.2) (fun q634 => some ((), q634.2))))))))) else some ((), q621.2)))))) else (Option.bind (f_X9_fails F 4 q598.2) (fun q636 => (Option.bind (some (fm_sI q636.2 232 9 ((q636.2.1 232 9) ||| (1 <<< (q1.1 &&& 31))))) (fun m638 => (Option.bind (f_X9_step F m638) (fun q640 => (if (q640.2.1 232 15) ≤ 0 then (Option.bind (f_X9_readMore F q1.1 q640.2) (fun q643 => (if ¬ (q643.2.1 232 15) = 0 then (Option.bind (f_X9_step F q643.2) (fun q646 => some ((), q646.2))) else (if (q643.2.1 232 19) = 3 then (Option.bind (f_X9_step F q643.2) (fun q649 => some ((), q649.2))) else (Option.bind (f_X9_fails F 2 q643.2) (fun q651 => (Option.bind (f_X9_step F q651.2) (fun q653 => some ((), q653.2))))))))) else some ((), q640.2)))))))))))))))) else (if (q3.2.1 232 7) = 4 then (Option.bind (f_X9_fails F 5 q3.2) (fun q656 => (Option.bind (f_X9_in F ((q1.1).toInt64) (Int64.ofNat 6) (Int64.ofNat 7) q656.2) (fun q658 => (if q658.1 = 0 then (Option.bind (some (fm_sI q658.2 232 9 ((q658.2.1 232 9) ||| (1 <<< (q1.1 &&& 31))))) (fun m661 => (Option.bind (f_X9_step F m661) (fun q663 => (if (q663.2.1 232 15) ≤ 0 then (Option.bind (f_X9_readMore F q1.1 q663.2) (fun q666 => (if ¬ (q666.2.1 232 15) = 0 then (Option.bind (f_X9_step F q666.2) (fun q669 => some ((), q669.2))) else (if (q666.2.1 232 19) = 3 then (Option.bind (f_X9_step F q666.2) (fun q672 => some ((), q672.2))) else (Option.bind (f_X9_fails F 2 q666.2) (fun q674 => (Option.bind (f_X9_step F q674.2) (fun q676 => some ((), q676.2))))))))) else some ((), q663.2)))))) else (if ¬ (((q658.2.1 232 9) >>> (q1.1 &&& 31)) &&& 1) = 1 then (Option.bind (some (fm_sI q658.2 232 9 ((q658.2.1 232 9) ||| (1 <<< (q1.1 &&& 31))))) (fun m679 => (Option.bind (f_X9_step F m679) (fun q681 => (if (q681.2.1 232 15) ≤ 0 then (Option.bind (f_X9_readMore F q1.1 q681.2) (fun q684 => (if ¬ (q684.2.1 232 15) = 0 then (Option.bind (f_X9_step F q684.2) (fun q687 => some ((), q687.2))) else (if (q684.2.1 232 19) = 3 then (Option.bind (f_X9_step F q684.2) (fun q690 => some ((), q690.2))) else (Option.bind (f_X9_fails F 2 q684.2) (fun q692 => (Option.bind (f_X9_step F q692.2) (fun q694 => some ((), q694.2))))))))) else some ((), q681.2)))))) else (Option.bind (f_X9_fails F 4 q658.2) (fun q696 => (Option.bind (some (fm_sI q696.2 232 9 ((q696.2.1 232 9) ||| (1 <<< (q1.1 &&& 31))))) (fun m698 => (Option.bind (f_X9_step F m698) (fun q700 => (if (q700.2.1 232 15) ≤ 0 then (Option.bind (f_X9_readMore F q1.1 q700.2) (fun q703 => (if ¬ (q703.2.1 232 15) = 0 then (Option.bind (f_X9_step F q703.2) (fun q706 => some ((), q706.2))) else (if (q703.2.1 232 19) = 3 then (Option.bind (f_X9_step F q703.2) (fun q709 => some ((), q709.2))) else (Option.bind (f_X9_fails F 2 q703.2) (fun q711 => (Option.bind (f_X9_step F q711.2) (fun q713 => some ((), q713.2))))))))) else some ((), q700.2)))))))))))))) else (if ¬ q1.1 = 5 then (Option.bind (f_X9_in F ((q1.1).toInt64) (Int64.ofNat 6) (Int64.ofNat 7) q3.2) (fun q716 => (if q716.1 = 0 then (Option.bind (some (fm_sI q716.2 232 9 ((q716.2.1 232 9) ||| (1 <<< (q1.1 &&& 31))))) (fun m719 => (Option.bind (f_X9_step F m719) (fun q721 => (if (q721.2.1 232 15) ≤ 0 then (Option.bind (f_X9_readMore F q1.1 q721.2) (fun q724 => (if ¬ (q724.2.1 232 15) = 0 then (Option.bind (f_X9_step F q724.2) (fun q727 => some ((), q727.2))) else (if (q724.2.1 232 19) = 3 then (Option.bind (f_X9_step F q724.2) (fun q730 => some ((), q730.2))) else (Option.bind (f_X9_fails F 2 q724.2) (fun q732 => (Option.bind (f_X9_step F q732.2) (fun q734 => some ((), q734.2))))))))) else some ((), q721.2)))))) else (if ¬ (((q716.2.1 232 9) >>> (q1.1 &&& 31)) &&& 1) = 1 then (Option.bind (some (fm_sI q716.2 232 9 ((q716.2.1 232 9) ||| (1 <<< (q1.1 &&& 31))))) (fun m737 => (Option.bind (f_X9_step F m737) (fun q739 => (if (q739.2.1 232 15) ≤ 0 then (Option.bind (f_X9_readMore F q1.1 q739.2) (fun q742 => (if ¬ (q742.2.1 232 15) = 0 then (Option.bind (f_X9_step F q742.2) (fun q745 => some ((), q745.2))) else (if (q742.2.1 232 19) = 3 then (Option.bind (f_X9_step F q742.2) (fun q748 => some ((), q748.2))) else (Option.bind (f_X9_fails F 2 q742.2) (fun q750 => (Option.bind (f_X9_step F q750.2) (fun q752 => some ((), q752.2))))))))) else some ((), q739.2)))))) else (Option.bind (f_X9_fails F 4 q716.2) (fun q754 => (Option.bind (some (fm_sI q754.2 232 9 ((q754.2.1 232 9) ||| (1 <<< (q1.1 &&& 31))))) (fun m756 => (Option.bind (f_X9_step F m756) (fun q758 => (if (q758.2.1 232 15) ≤ 0 then (Option.bind (f_X9_readMore F q1.1 q758.2) (fun q761 => (if ¬ (q761.2.1 232 15) = 0 then (Option.bind (f_X9_step F q761.2) (fun q764 => some ((), q764.2))) else (if (q761.2.1 232 19) = 3 then (Option.bind (f_X9_step F q761.2) (fun q767 => some ((), q767.2))) else (Option.bind (f_X9_fails F 2 q761.2) (fun q769 => (Option.bind (f_X9_step F q769.2) (fun q771 => some ((), q771.2))))))))) else some ((), q758.2)))))))))))) else (if ¬ (q3.2.1 232 8) = 4 then (Option.bind (f_X9_in F ((q1.1).toInt64) (Int64.ofNat 6) (Int64.ofNat 7) q3.2) (fun q774 => (if q774.1 = 0 then (Option.bind (some (fm_sI q774.2 232 9 ((q774.2.1 232 9) ||| (1 <<< (q1.1 &&& 31))))) (fun m777 => (Option.bind (f_X9_step F m777) (fun q779 => (if (q779.2.1 232 15) ≤ 0 then (Option.bind (f_X9_readMore F q1.1 q779.2) (fun q782 => (if ¬ (q782.2.1 232 15) = 0 then (Option.bind (f_X9_step F q782.2) (fun q785 => some ((), q785.2))) else (if (q782.2.1 232 19) = 3 then (Option.bind (f_X9_step F q782.2) (fun q788 => some ((), q788.2))) else (Option.bind (f_X9_fails F 2 q782.2) (fun q790 => (Option.bind (f_X9_step F q790.2) (fun q792 => some ((), q792.2))))))))) else some ((), q779.2)))))) else (if ¬ (((q774.2.1 232 9) >>> (q1.1 &&& 31)) &&& 1) = 1 then (Option.bind (some (fm_sI q774.2 232 9 ((q774.2.1 232 9) ||| (1 <<< (q1.1 &&& 31))))) (fun m795 => (Option.bind (f_X9_step F m795) (fun q797 => (if (q797.2.1 232 15) ≤ 0 then (Option.bind (f_X9_readMore F q1.1 q797.2) (fun q800 => (if ¬ (q800.2.1 232 15) = 0 then (Option.bind (f_X9_step F q800.2) (fun q803 => some ((), q803.2))) else (if (q800.2.1 232 19) = 3 then (Option.bind (f_X9_step F q800.2) (fun q806 => some ((), q806.2))) else (Option.bind (f_X9_fails F 2 q800.2) (fun q808 => (Option.bind (f_X9_step F q808.2) (fun q810 => some ((), q810.2))))))))) else some ((), q797.2)))))) else (Option.bind (f_X9_fails F 4 q774.2) (fun q812 => (Option.bind (some (fm_sI q812.2 232 9 ((q812.2.1 232 9) ||| (1 <<< (q1.1 &&& 31))))) (fun m814 => (Option.bind (f_X9_step F m814) (fun q816 => (if (q816.2.1 232 15) ≤ 0 then (Option.bind (f_X9_readMore F q1.1 q816.2) (fun q819 => (if ¬ (q819.2.1 232 15) = 0 then (Option.bind (f_X9_step F q819.2) (fun q822 => some ((), q822.2))) else (if (q819.2.1 232 19) = 3 then (Option.bind (f_X9_step F q819.2) (fun q825 => some ((), q825.2))) else (Option.bind (f_X9_fails F 2 q819.2) (fun q827 => (Option.bind (f_X9_step F q827.2) (fun q829 => some ((), q829.2))))))))) else some ((), q816.2)))))))))))) else (Option.bind (f_X9_fails F 5 q3.2) (fun q831 => (Option.bind (f_X9_in F ((q1.1).toInt64) (Int64.ofNat 6) (Int64.ofNat 7) q831.2) (fun q833 => (if q833.1 = 0 then (Option.bind (some (fm_sI q833.2 232 9 ((q833.2.1 232 9) ||| (1 <<< (q1.1 &&& 31))))) (fun m836 => (Option.bind (f_X9_step F m836) (fun q838 => (if (q838.2.1 232 15) ≤ 0 then (Option.bind (f_X9_readMore F q1.1 q838.2) (fun q841 => (if ¬ (q841.2.1 232 15) = 0 then (Option.bind (f_X9_step F q841.2) (fun q844 => some ((), q844.2))) else (if (q841.2.1 232 19) = 3 then (Option.bind (f_X9_step F q841.2) (fun q847 => some ((), q847.2))) else (Option.bind (f_X9_fails F 2 q841.2) (fun q849 => (Option.bind (f_X9_step F q849.2) (fun q851 => some ((), q851.2))))))))) else some ((), q838.2)))))) else (if ¬ (((q833.2.1 232 9) >>> (q1.1 &&& 31)) &&& 1) = 1 then (Option.bind (some (fm_sI q833.2 232 9 ((q833.2.1 232 9) ||| (1 <<< (q1.1 &&& 31))))) (fun m854 => (Option.bind (f_X9_step F m854) (fun q856 => (if (q856.2.1 232 15) ≤ 0 then (Option.bind (f_X9_readMore F q1.1 q856.2) (fun q859 => (if ¬ (q859.2.1 232 15) = 0 then (Option.bind (f_X9_step F q859.2) (fun q862 => some ((), q862.2))) else (if (q859.2.1 232 19) = 3 then (Option.bind (f_X9_step F q859.2) (fun q865 => some ((), q865.2))) else (Option.bind (f_X9_fails F 2 q859.2) (fun q867 => (Option.bind (f_X9_step F q867.2) (fun q869 => some ((), q869.2))))))))) else some ((), q856.2)))))) else (Option.bind (f_X9_fails F 4 q833.2) (fun q871 => (Option.bind (some (fm_sI q871.2 232 9 ((q871.2.1 232 9) ||| (1 <<< (q1.1 &&& 31))))) (fun m873 => (Option.bind (f_X9_step F m873) (fun q875 => (if (q875.2.1 232 15) ≤ 0 then (Option.bind (f_X9_readMore F q1.1 q875.2) (fun q878 => (if ¬ (q878.2.1 232 15) = 0 then (Option.bind (f_X9_step F q878.2) (fun q881 => some ((), q881.2))) else (if (q878.2.1 232 19) = 3 then (Option.bind (f_X9_step F q878.2) (fun q884 => some ((), q884.2))) else (Option.bind (f_X9_fails F 2 q878.2) (fun q886 => (Option.bind (f_X9_step F q886.2) (fun q888 => some ((), q888.2))))))))) else some ((), q875.2))))))))))))))))))) else none)) else (Option.bind (f_X9_fails F 2 q3.2) (fun q890 => some ((), q890.2))))))))
set_option maxRecDepth 20000 in
theorem t_X9_readLine {X : Nat × (Nat → Int32)} {G : Nat → Nat → Option Nat} (hG : fm_Gok G) {F : Nat}    {μ : fm_M} {r : Unit × fm_M} (hf : f_X9_readLine F  μ = some r) : ab_F 7 146 [.ref 232] (hp X G μ) none (hp X G r.2) := by
  unfold f_X9_readLine at hf
  refine ab_T.of (d := 6) rfl (Nat.le_of_ble_eq_true rfl) ?_
  show ab_U _ _ kX9_readLine (0, [some (.ref 232), none], [], hp X G μ) _
  refine ab_U.run 1 (S' := (1, [some (.ref 232), none], [.ref 232], hp X G μ)) rfl ?_
  obtain ⟨q1, h2, hf⟩ := ab_bnd hf
  refine ab_U.fn rfl rfl (t_X9_nameHere (X := X) hG h2) (by omega) ?_
  show ab_U _ _ _ (4, [some (.ref 232), none], [.int q1.1], hp X G q1.2) _
  refine ab_U.run 5 (S' := (11, [some (.ref 232), some (.int q1.1)], [.long (Int64.ofNat 8), .long (Int64.ofNat 0), .long (q1.1).toInt64], hp X G q1.2)) rfl ?_
  obtain ⟨q3, h4, hf⟩ := ab_bnd hf
  refine ab_U.fn rfl rfl (t_X9_in (X := X) hG h4) (by omega) ?_
  show ab_U _ _ _ (14, [some (.ref 232), some (.int q1.1)], [.int q3.1], hp X G q3.2) _
  refine ab_U.if_ne rfl (fun b5 => ?_) (fun b5 => ?_)
  · rw [if_pos b5] at hf
    refine ab_U.run 2 (S' := (25, [some (.ref 232), some (.int q1.1)], [.int 3, .int q1.1], hp X G q3.2)) rfl ?_
    refine ab_U.ic_gt rfl (fun b6 => ?_) (fun b6 => ?_)
    · rw [if_pos b6] at hf
      refine ab_U.run 2 (S' := (41, [some (.ref 232), some (.int q1.1)], [.int 4, .int q1.1], hp X G q3.2)) rfl ?_
      refine ab_U.ic_ne rfl (fun b7 => ?_) (fun b7 => ?_)
      · rw [if_pos b7] at hf
        refine ab_U.run 2 (S' := (54, [some (.ref 232), some (.int q1.1)], [.int 5, .int q1.1], hp X G q3.2)) rfl ?_
        refine ab_U.ic_ne rfl (fun b8 => ?_) (fun b8 => ?_)
        · rw [if_pos b8] at hf
          refine ab_U.run 4 (S' := (78, [some (.ref 232), some (.int q1.1)], [.long (Int64.ofNat 7), .long (Int64.ofNat 6), .long (q1.1).toInt64], hp X G q3.2)) rfl ?_
          obtain ⟨q9, h10, hf⟩ := ab_bnd hf
          refine ab_U.fn rfl rfl (t_X9_in (X := X) hG h10) (by omega) ?_
          show ab_U _ _ _ (81, [some (.ref 232), some (.int q1.1)], [.int q9.1], hp X G q9.2) _
          refine ab_U.if_eq rfl (fun b11 => ?_) (fun b11 => ?_)
          · rw [if_pos b11] at hf
            refine ab_U.run 7 (S' := (110, [some (.ref 232), some (.int q1.1)], [.int ((q9.2.1 232 9) ||| (1 <<< (q1.1 &&& 31))), .ref 232], hp X G q9.2)) rfl ?_
            obtain ⟨m12, e13, hf⟩ := ab_bnd hf
            have e13 := Option.some.inj e13
            refine ab_U.pfI (ci := 9) (k9 := 9) rfl ⟨by decide, rfl⟩ ⟨rfl, rfl, by decide, rfl⟩ rfl ?_
            show ab_U _ _ _ (113, [some (.ref 232), some (.int q1.1)], [], hp X G (fm_sI q9.2 232 9 ((q9.2.1 232 9) ||| (1 <<< (q1.1 &&& 31))))) _
            rw [e13]
            refine ab_U.run 1 (S' := (114, [some (.ref 232), some (.int q1.1)], [.ref 232], hp X G m12)) rfl ?_
            obtain ⟨q14, h15, hf⟩ := ab_bnd hf
            refine ab_U.fn rfl rfl (t_X9_step (X := X) hG h15) (by omega) ?_
            show ab_U _ _ _ (117, [some (.ref 232), some (.int q1.1)], [], hp X G q14.2) _
            refine ab_U.run 2 (S' := (121, [some (.ref 232), some (.int q1.1)], [.int (q14.2.1 232 15)], hp X G q14.2)) rfl ?_
            refine ab_U.if_le rfl (fun b16 => ?_) (fun b16 => ?_)
            · rw [if_pos b16] at hf
              refine ab_U.run 2 (S' := (127, [some (.ref 232), some (.int q1.1)], [.int q1.1, .ref 232], hp X G q14.2)) rfl ?_
              obtain ⟨q17, h18, hf⟩ := ab_bnd hf
              refine ab_U.fn rfl rfl (t_X9_readMore (X := X) hG h18) (by omega) ?_
              show ab_U _ _ _ (130, [some (.ref 232), some (.int q1.1)], [], hp X G q17.2) _
              refine ab_U.run 2 (S' := (134, [some (.ref 232), some (.int q1.1)], [.int (q17.2.1 232 15)], hp X G q17.2)) rfl ?_
              refine ab_U.if_ne rfl (fun b19 => ?_) (fun b19 => ?_)
              · rw [if_pos b19] at hf
                refine ab_U.run 1 (S' := (151, [some (.ref 232), some (.int q1.1)], [.ref 232], hp X G q17.2)) rfl ?_
                obtain ⟨q20, h21, hf⟩ := ab_bnd hf
                refine ab_U.fn rfl rfl (t_X9_step (X := X) hG h21) (by omega) ?_
                show ab_U _ _ _ (154, [some (.ref 232), some (.int q1.1)], [], hp X G q20.2) _
                obtain rfl := Option.some.inj hf
                exact ab_U.ret rfl rfl ⟨rfl, rfl⟩
              · rw [if_neg b19] at hf
                refine ab_U.run 3 (S' := (142, [some (.ref 232), some (.int q1.1)], [.int 3, .int (q17.2.1 232 19)], hp X G q17.2)) rfl ?_
                refine ab_U.ic_eq rfl (fun b22 => ?_) (fun b22 => ?_)
                · rw [if_pos b22] at hf
                  refine ab_U.run 1 (S' := (151, [some (.ref 232), some (.int q1.1)], [.ref 232], hp X G q17.2)) rfl ?_
                  obtain ⟨q23, h24, hf⟩ := ab_bnd hf
                  refine ab_U.fn rfl rfl (t_X9_step (X := X) hG h24) (by omega) ?_
                  show ab_U _ _ _ (154, [some (.ref 232), some (.int q1.1)], [], hp X G q23.2) _
                  obtain rfl := Option.some.inj hf
                  exact ab_U.ret rfl rfl ⟨rfl, rfl⟩
                · rw [if_neg b22] at hf
                  refine ab_U.run 2 (S' := (147, [some (.ref 232), some (.int q1.1)], [.int 2, .ref 232], hp X G q17.2)) rfl ?_
                  obtain ⟨q25, h26, hf⟩ := ab_bnd hf
                  refine ab_U.fn rfl rfl (t_X9_fails (X := X) hG h26) (by omega) ?_
                  show ab_U _ _ _ (150, [some (.ref 232), some (.int q1.1)], [], hp X G q25.2) _
                  refine ab_U.run 1 (S' := (151, [some (.ref 232), some (.int q1.1)], [.ref 232], hp X G q25.2)) rfl ?_
                  obtain ⟨q27, h28, hf⟩ := ab_bnd hf
                  refine ab_U.fn rfl rfl (t_X9_step (X := X) hG h28) (by omega) ?_
                  show ab_U _ _ _ (154, [some (.ref 232), some (.int q1.1)], [], hp X G q27.2) _
                  obtain rfl := Option.some.inj hf
                  exact ab_U.ret rfl rfl ⟨rfl, rfl⟩
            · rw [if_neg b16] at hf
              obtain rfl := Option.some.inj hf
              exact ab_U.ret rfl rfl ⟨rfl, rfl⟩
          · rw [if_neg b11] at hf
            refine ab_U.run 7 (S' := (93, [some (.ref 232), some (.int q1.1)], [.int 1, .int (((q9.2.1 232 9) >>> (q1.1 &&& 31)) &&& 1)], hp X G q9.2)) rfl ?_
            refine ab_U.ic_ne rfl (fun b29 => ?_) (fun b29 => ?_)
            · rw [if_pos b29] at hf
              refine ab_U.run 7 (S' := (110, [some (.ref 232), some (.int q1.1)], [.int ((q9.2.1 232 9) ||| (1 <<< (q1.1 &&& 31))), .ref 232], hp X G q9.2)) rfl ?_
              obtain ⟨m30, e31, hf⟩ := ab_bnd hf
              have e31 := Option.some.inj e31
              refine ab_U.pfI (ci := 9) (k9 := 9) rfl ⟨by decide, rfl⟩ ⟨rfl, rfl, by decide, rfl⟩ rfl ?_
              show ab_U _ _ _ (113, [some (.ref 232), some (.int q1.1)], [], hp X G (fm_sI q9.2 232 9 ((q9.2.1 232 9) ||| (1 <<< (q1.1 &&& 31))))) _
              rw [e31]
              refine ab_U.run 1 (S' := (114, [some (.ref 232), some (.int q1.1)], [.ref 232], hp X G m30)) rfl ?_
              obtain ⟨q32, h33, hf⟩ := ab_bnd hf
              refine ab_U.fn rfl rfl (t_X9_step (X := X) hG h33) (by omega) ?_
              show ab_U _ _ _ (117, [some (.ref 232), some (.int q1.1)], [], hp X G q32.2) _
              refine ab_U.run 2 (S' := (121, [some (.ref 232), some (.int q1.1)], [.int (q32.2.1 232 15)], hp X G q32.2)) rfl ?_
              refine ab_U.if_le rfl (fun b34 => ?_) (fun b34 => ?_)
              · rw [if_pos b34] at hf
                refine ab_U.run 2 (S' := (127, [some (.ref 232), some (.int q1.1)], [.int q1.1, .ref 232], hp X G q32.2)) rfl ?_
                obtain ⟨q35, h36, hf⟩ := ab_bnd hf
                refine ab_U.fn rfl rfl (t_X9_readMore (X := X) hG h36) (by omega) ?_
                show ab_U _ _ _ (130, [some (.ref 232), some (.int q1.1)], [], hp X G q35.2) _
                refine ab_U.run 2 (S' := (134, [some (.ref 232), some (.int q1.1)], [.int (q35.2.1 232 15)], hp X G q35.2)) rfl ?_
                refine ab_U.if_ne rfl (fun b37 => ?_) (fun b37 => ?_)
                · rw [if_pos b37] at hf
                  refine ab_U.run 1 (S' := (151, [some (.ref 232), some (.int q1.1)], [.ref 232], hp X G q35.2)) rfl ?_
                  obtain ⟨q38, h39, hf⟩ := ab_bnd hf
                  refine ab_U.fn rfl rfl (t_X9_step (X := X) hG h39) (by omega) ?_
                  show ab_U _ _ _ (154, [some (.ref 232), some (.int q1.1)], [], hp X G q38.2) _
                  obtain rfl := Option.some.inj hf
                  exact ab_U.ret rfl rfl ⟨rfl, rfl⟩
                · rw [if_neg b37] at hf
                  refine ab_U.run 3 (S' := (142, [some (.ref 232), some (.int q1.1)], [.int 3, .int (q35.2.1 232 19)], hp X G q35.2)) rfl ?_
                  refine ab_U.ic_eq rfl (fun b40 => ?_) (fun b40 => ?_)
                  · rw [if_pos b40] at hf
                    refine ab_U.run 1 (S' := (151, [some (.ref 232), some (.int q1.1)], [.ref 232], hp X G q35.2)) rfl ?_
                    obtain ⟨q41, h42, hf⟩ := ab_bnd hf
                    refine ab_U.fn rfl rfl (t_X9_step (X := X) hG h42) (by omega) ?_
                    show ab_U _ _ _ (154, [some (.ref 232), some (.int q1.1)], [], hp X G q41.2) _
                    obtain rfl := Option.some.inj hf
                    exact ab_U.ret rfl rfl ⟨rfl, rfl⟩
                  · rw [if_neg b40] at hf
                    refine ab_U.run 2 (S' := (147, [some (.ref 232), some (.int q1.1)], [.int 2, .ref 232], hp X G q35.2)) rfl ?_
                    obtain ⟨q43, h44, hf⟩ := ab_bnd hf
                    refine ab_U.fn rfl rfl (t_X9_fails (X := X) hG h44) (by omega) ?_
                    show ab_U _ _ _ (150, [some (.ref 232), some (.int q1.1)], [], hp X G q43.2) _
                    refine ab_U.run 1 (S' := (151, [some (.ref 232), some (.int q1.1)], [.ref 232], hp X G q43.2)) rfl ?_
                    obtain ⟨q45, h46, hf⟩ := ab_bnd hf
                    refine ab_U.fn rfl rfl (t_X9_step (X := X) hG h46) (by omega) ?_
                    show ab_U _ _ _ (154, [some (.ref 232), some (.int q1.1)], [], hp X G q45.2) _
                    obtain rfl := Option.some.inj hf
                    exact ab_U.ret rfl rfl ⟨rfl, rfl⟩
              · rw [if_neg b34] at hf
                obtain rfl := Option.some.inj hf
                exact ab_U.ret rfl rfl ⟨rfl, rfl⟩
            · rw [if_neg b29] at hf
              refine ab_U.run 2 (S' := (98, [some (.ref 232), some (.int q1.1)], [.int 4, .ref 232], hp X G q9.2)) rfl ?_
              obtain ⟨q47, h48, hf⟩ := ab_bnd hf
              refine ab_U.fn rfl rfl (t_X9_fails (X := X) hG h48) (by omega) ?_
              show ab_U _ _ _ (101, [some (.ref 232), some (.int q1.1)], [], hp X G q47.2) _
              refine ab_U.run 7 (S' := (110, [some (.ref 232), some (.int q1.1)], [.int ((q47.2.1 232 9) ||| (1 <<< (q1.1 &&& 31))), .ref 232], hp X G q47.2)) rfl ?_
              obtain ⟨m49, e50, hf⟩ := ab_bnd hf
              have e50 := Option.some.inj e50
              refine ab_U.pfI (ci := 9) (k9 := 9) rfl ⟨by decide, rfl⟩ ⟨rfl, rfl, by decide, rfl⟩ rfl ?_
              show ab_U _ _ _ (113, [some (.ref 232), some (.int q1.1)], [], hp X G (fm_sI q47.2 232 9 ((q47.2.1 232 9) ||| (1 <<< (q1.1 &&& 31))))) _
              rw [e50]
              refine ab_U.run 1 (S' := (114, [some (.ref 232), some (.int q1.1)], [.ref 232], hp X G m49)) rfl ?_
              obtain ⟨q51, h52, hf⟩ := ab_bnd hf
              refine ab_U.fn rfl rfl (t_X9_step (X := X) hG h52) (by omega) ?_
              show ab_U _ _ _ (117, [some (.ref 232), some (.int q1.1)], [], hp X G q51.2) _
              refine ab_U.run 2 (S' := (121, [some (.ref 232), some (.int q1.1)], [.int (q51.2.1 232 15)], hp X G q51.2)) rfl ?_
              refine ab_U.if_le rfl (fun b53 => ?_) (fun b53 => ?_)
              · rw [if_pos b53] at hf
                refine ab_U.run 2 (S' := (127, [some (.ref 232), some (.int q1.1)], [.int q1.1, .ref 232], hp X G q51.2)) rfl ?_
                obtain ⟨q54, h55, hf⟩ := ab_bnd hf
                refine ab_U.fn rfl rfl (t_X9_readMore (X := X) hG h55) (by omega) ?_
                show ab_U _ _ _ (130, [some (.ref 232), some (.int q1.1)], [], hp X G q54.2) _
                refine ab_U.run 2 (S' := (134, [some (.ref 232), some (.int q1.1)], [.int (q54.2.1 232 15)], hp X G q54.2)) rfl ?_
                refine ab_U.if_ne rfl (fun b56 => ?_) (fun b56 => ?_)
                · rw [if_pos b56] at hf
                  refine ab_U.run 1 (S' := (151, [some (.ref 232), some (.int q1.1)], [.ref 232], hp X G q54.2)) rfl ?_
                  obtain ⟨q57, h58, hf⟩ := ab_bnd hf
                  refine ab_U.fn rfl rfl (t_X9_step (X := X) hG h58) (by omega) ?_
                  show ab_U _ _ _ (154, [some (.ref 232), some (.int q1.1)], [], hp X G q57.2) _
                  obtain rfl := Option.some.inj hf
                  exact ab_U.ret rfl rfl ⟨rfl, rfl⟩
                · rw [if_neg b56] at hf
                  refine ab_U.run 3 (S' := (142, [some (.ref 232), some (.int q1.1)], [.int 3, .int (q54.2.1 232 19)], hp X G q54.2)) rfl ?_
                  refine ab_U.ic_eq rfl (fun b59 => ?_) (fun b59 => ?_)
                  · rw [if_pos b59] at hf
                    refine ab_U.run 1 (S' := (151, [some (.ref 232), some (.int q1.1)], [.ref 232], hp X G q54.2)) rfl ?_
                    obtain ⟨q60, h61, hf⟩ := ab_bnd hf
                    refine ab_U.fn rfl rfl (t_X9_step (X := X) hG h61) (by omega) ?_
                    show ab_U _ _ _ (154, [some (.ref 232), some (.int q1.1)], [], hp X G q60.2) _
                    obtain rfl := Option.some.inj hf
                    exact ab_U.ret rfl rfl ⟨rfl, rfl⟩
                  · rw [if_neg b59] at hf
                    refine ab_U.run 2 (S' := (147, [some (.ref 232), some (.int q1.1)], [.int 2, .ref 232], hp X G q54.2)) rfl ?_
                    obtain ⟨q62, h63, hf⟩ := ab_bnd hf
                    refine ab_U.fn rfl rfl (t_X9_fails (X := X) hG h63) (by omega) ?_
                    show ab_U _ _ _ (150, [some (.ref 232), some (.int q1.1)], [], hp X G q62.2) _
                    refine ab_U.run 1 (S' := (151, [some (.ref 232), some (.int q1.1)], [.ref 232], hp X G q62.2)) rfl ?_
                    obtain ⟨q64, h65, hf⟩ := ab_bnd hf
                    refine ab_U.fn rfl rfl (t_X9_step (X := X) hG h65) (by omega) ?_
                    show ab_U _ _ _ (154, [some (.ref 232), some (.int q1.1)], [], hp X G q64.2) _
                    obtain rfl := Option.some.inj hf
                    exact ab_U.ret rfl rfl ⟨rfl, rfl⟩
              · rw [if_neg b53] at hf
                obtain rfl := Option.some.inj hf
                exact ab_U.ret rfl rfl ⟨rfl, rfl⟩
        · rw [if_neg b8] at hf
          refine ab_U.run 3 (S' := (62, [some (.ref 232), some (.int q1.1)], [.int 4, .int (q3.2.1 232 8)], hp X G q3.2)) rfl ?_
          refine ab_U.ic_ne rfl (fun b66 => ?_) (fun b66 => ?_)
          · rw [if_pos b66] at hf
            refine ab_U.run 4 (S' := (78, [some (.ref 232), some (.int q1.1)], [.long (Int64.ofNat 7), .long (Int64.ofNat 6), .long (q1.1).toInt64], hp X G q3.2)) rfl ?_
            obtain ⟨q67, h68, hf⟩ := ab_bnd hf
            refine ab_U.fn rfl rfl (t_X9_in (X := X) hG h68) (by omega) ?_
            show ab_U _ _ _ (81, [some (.ref 232), some (.int q1.1)], [.int q67.1], hp X G q67.2) _
            refine ab_U.if_eq rfl (fun b69 => ?_) (fun b69 => ?_)
            · rw [if_pos b69] at hf
              refine ab_U.run 7 (S' := (110, [some (.ref 232), some (.int q1.1)], [.int ((q67.2.1 232 9) ||| (1 <<< (q1.1 &&& 31))), .ref 232], hp X G q67.2)) rfl ?_
              obtain ⟨m70, e71, hf⟩ := ab_bnd hf
              have e71 := Option.some.inj e71
              refine ab_U.pfI (ci := 9) (k9 := 9) rfl ⟨by decide, rfl⟩ ⟨rfl, rfl, by decide, rfl⟩ rfl ?_
              show ab_U _ _ _ (113, [some (.ref 232), some (.int q1.1)], [], hp X G (fm_sI q67.2 232 9 ((q67.2.1 232 9) ||| (1 <<< (q1.1 &&& 31))))) _
              rw [e71]
              refine ab_U.run 1 (S' := (114, [some (.ref 232), some (.int q1.1)], [.ref 232], hp X G m70)) rfl ?_
              obtain ⟨q72, h73, hf⟩ := ab_bnd hf
              refine ab_U.fn rfl rfl (t_X9_step (X := X) hG h73) (by omega) ?_
              show ab_U _ _ _ (117, [some (.ref 232), some (.int q1.1)], [], hp X G q72.2) _
              refine ab_U.run 2 (S' := (121, [some (.ref 232), some (.int q1.1)], [.int (q72.2.1 232 15)], hp X G q72.2)) rfl ?_
              refine ab_U.if_le rfl (fun b74 => ?_) (fun b74 => ?_)
              · rw [if_pos b74] at hf
                refine ab_U.run 2 (S' := (127, [some (.ref 232), some (.int q1.1)], [.int q1.1, .ref 232], hp X G q72.2)) rfl ?_
                obtain ⟨q75, h76, hf⟩ := ab_bnd hf
                refine ab_U.fn rfl rfl (t_X9_readMore (X := X) hG h76) (by omega) ?_
                show ab_U _ _ _ (130, [some (.ref 232), some (.int q1.1)], [], hp X G q75.2) _
                refine ab_U.run 2 (S' := (134, [some (.ref 232), some (.int q1.1)], [.int (q75.2.1 232 15)], hp X G q75.2)) rfl ?_
                refine ab_U.if_ne rfl (fun b77 => ?_) (fun b77 => ?_)
                · rw [if_pos b77] at hf
                  refine ab_U.run 1 (S' := (151, [some (.ref 232), some (.int q1.1)], [.ref 232], hp X G q75.2)) rfl ?_
                  obtain ⟨q78, h79, hf⟩ := ab_bnd hf
                  refine ab_U.fn rfl rfl (t_X9_step (X := X) hG h79) (by omega) ?_
                  show ab_U _ _ _ (154, [some (.ref 232), some (.int q1.1)], [], hp X G q78.2) _
                  obtain rfl := Option.some.inj hf
                  exact ab_U.ret rfl rfl ⟨rfl, rfl⟩
                · rw [if_neg b77] at hf
                  refine ab_U.run 3 (S' := (142, [some (.ref 232), some (.int q1.1)], [.int 3, .int (q75.2.1 232 19)], hp X G q75.2)) rfl ?_
                  refine ab_U.ic_eq rfl (fun b80 => ?_) (fun b80 => ?_)
                  · rw [if_pos b80] at hf
                    refine ab_U.run 1 (S' := (151, [some (.ref 232), some (.int q1.1)], [.ref 232], hp X G q75.2)) rfl ?_
                    obtain ⟨q81, h82, hf⟩ := ab_bnd hf
                    refine ab_U.fn rfl rfl (t_X9_step (X := X) hG h82) (by omega) ?_
                    show ab_U _ _ _ (154, [some (.ref 232), some (.int q1.1)], [], hp X G q81.2) _
                    obtain rfl := Option.some.inj hf
                    exact ab_U.ret rfl rfl ⟨rfl, rfl⟩
                  · rw [if_neg b80] at hf
                    refine ab_U.run 2 (S' := (147, [some (.ref 232), some (.int q1.1)], [.int 2, .ref 232], hp X G q75.2)) rfl ?_
                    obtain ⟨q83, h84, hf⟩ := ab_bnd hf
                    refine ab_U.fn rfl rfl (t_X9_fails (X := X) hG h84) (by omega) ?_
                    show ab_U _ _ _ (150, [some (.ref 232), some (.int q1.1)], [], hp X G q83.2) _
                    refine ab_U.run 1 (S' := (151, [some (.ref 232), some (.int q1.1)], [.ref 232], hp X G q83.2)) rfl ?_
                    obtain ⟨q85, h86, hf⟩ := ab_bnd hf
                    refine ab_U.fn rfl rfl (t_X9_step (X := X) hG h86) (by omega) ?_
                    show ab_U _ _ _ (154, [some (.ref 232), some (.int q1.1)], [], hp X G q85.2) _
                    obtain rfl := Option.some.inj hf
                    exact ab_U.ret rfl rfl ⟨rfl, rfl⟩
              · rw [if_neg b74] at hf
                obtain rfl := Option.some.inj hf
                exact ab_U.ret rfl rfl ⟨rfl, rfl⟩
            · rw [if_neg b69] at hf
              refine ab_U.run 7 (S' := (93, [some (.ref 232), some (.int q1.1)], [.int 1, .int (((q67.2.1 232 9) >>> (q1.1 &&& 31)) &&& 1)], hp X G q67.2)) rfl ?_
              refine ab_U.ic_ne rfl (fun b87 => ?_) (fun b87 => ?_)
              · rw [if_pos b87] at hf
                refine ab_U.run 7 (S' := (110, [some (.ref 232), some (.int q1.1)], [.int ((q67.2.1 232 9) ||| (1 <<< (q1.1 &&& 31))), .ref 232], hp X G q67.2)) rfl ?_
                obtain ⟨m88, e89, hf⟩ := ab_bnd hf
                have e89 := Option.some.inj e89
                refine ab_U.pfI (ci := 9) (k9 := 9) rfl ⟨by decide, rfl⟩ ⟨rfl, rfl, by decide, rfl⟩ rfl ?_
                show ab_U _ _ _ (113, [some (.ref 232), some (.int q1.1)], [], hp X G (fm_sI q67.2 232 9 ((q67.2.1 232 9) ||| (1 <<< (q1.1 &&& 31))))) _
                rw [e89]
                refine ab_U.run 1 (S' := (114, [some (.ref 232), some (.int q1.1)], [.ref 232], hp X G m88)) rfl ?_
                obtain ⟨q90, h91, hf⟩ := ab_bnd hf
                refine ab_U.fn rfl rfl (t_X9_step (X := X) hG h91) (by omega) ?_
                show ab_U _ _ _ (117, [some (.ref 232), some (.int q1.1)], [], hp X G q90.2) _
                refine ab_U.run 2 (S' := (121, [some (.ref 232), some (.int q1.1)], [.int (q90.2.1 232 15)], hp X G q90.2)) rfl ?_
                refine ab_U.if_le rfl (fun b92 => ?_) (fun b92 => ?_)
                · rw [if_pos b92] at hf
                  refine ab_U.run 2 (S' := (127, [some (.ref 232), some (.int q1.1)], [.int q1.1, .ref 232], hp X G q90.2)) rfl ?_
                  obtain ⟨q93, h94, hf⟩ := ab_bnd hf
                  refine ab_U.fn rfl rfl (t_X9_readMore (X := X) hG h94) (by omega) ?_
                  show ab_U _ _ _ (130, [some (.ref 232), some (.int q1.1)], [], hp X G q93.2) _
                  refine ab_U.run 2 (S' := (134, [some (.ref 232), some (.int q1.1)], [.int (q93.2.1 232 15)], hp X G q93.2)) rfl ?_
                  refine ab_U.if_ne rfl (fun b95 => ?_) (fun b95 => ?_)
                  · rw [if_pos b95] at hf
                    refine ab_U.run 1 (S' := (151, [some (.ref 232), some (.int q1.1)], [.ref 232], hp X G q93.2)) rfl ?_
                    obtain ⟨q96, h97, hf⟩ := ab_bnd hf
                    refine ab_U.fn rfl rfl (t_X9_step (X := X) hG h97) (by omega) ?_
                    show ab_U _ _ _ (154, [some (.ref 232), some (.int q1.1)], [], hp X G q96.2) _
                    obtain rfl := Option.some.inj hf
                    exact ab_U.ret rfl rfl ⟨rfl, rfl⟩
                  · rw [if_neg b95] at hf
                    refine ab_U.run 3 (S' := (142, [some (.ref 232), some (.int q1.1)], [.int 3, .int (q93.2.1 232 19)], hp X G q93.2)) rfl ?_
                    refine ab_U.ic_eq rfl (fun b98 => ?_) (fun b98 => ?_)
                    · rw [if_pos b98] at hf
                      refine ab_U.run 1 (S' := (151, [some (.ref 232), some (.int q1.1)], [.ref 232], hp X G q93.2)) rfl ?_
                      obtain ⟨q99, h100, hf⟩ := ab_bnd hf
                      refine ab_U.fn rfl rfl (t_X9_step (X := X) hG h100) (by omega) ?_
                      show ab_U _ _ _ (154, [some (.ref 232), some (.int q1.1)], [], hp X G q99.2) _
                      obtain rfl := Option.some.inj hf
                      exact ab_U.ret rfl rfl ⟨rfl, rfl⟩
                    · rw [if_neg b98] at hf
                      refine ab_U.run 2 (S' := (147, [some (.ref 232), some (.int q1.1)], [.int 2, .ref 232], hp X G q93.2)) rfl ?_
                      obtain ⟨q101, h102, hf⟩ := ab_bnd hf
                      refine ab_U.fn rfl rfl (t_X9_fails (X := X) hG h102) (by omega) ?_
                      show ab_U _ _ _ (150, [some (.ref 232), some (.int q1.1)], [], hp X G q101.2) _
                      refine ab_U.run 1 (S' := (151, [some (.ref 232), some (.int q1.1)], [.ref 232], hp X G q101.2)) rfl ?_
                      obtain ⟨q103, h104, hf⟩ := ab_bnd hf
                      refine ab_U.fn rfl rfl (t_X9_step (X := X) hG h104) (by omega) ?_
                      show ab_U _ _ _ (154, [some (.ref 232), some (.int q1.1)], [], hp X G q103.2) _
                      obtain rfl := Option.some.inj hf
                      exact ab_U.ret rfl rfl ⟨rfl, rfl⟩
                · rw [if_neg b92] at hf
                  obtain rfl := Option.some.inj hf
                  exact ab_U.ret rfl rfl ⟨rfl, rfl⟩
              · rw [if_neg b87] at hf
                refine ab_U.run 2 (S' := (98, [some (.ref 232), some (.int q1.1)], [.int 4, .ref 232], hp X G q67.2)) rfl ?_
                obtain ⟨q105, h106, hf⟩ := ab_bnd hf
                refine ab_U.fn rfl rfl (t_X9_fails (X := X) hG h106) (by omega) ?_
                show ab_U _ _ _ (101, [some (.ref 232), some (.int q1.1)], [], hp X G q105.2) _
                refine ab_U.run 7 (S' := (110, [some (.ref 232), some (.int q1.1)], [.int ((q105.2.1 232 9) ||| (1 <<< (q1.1 &&& 31))), .ref 232], hp X G q105.2)) rfl ?_
                obtain ⟨m107, e108, hf⟩ := ab_bnd hf
                have e108 := Option.some.inj e108
                refine ab_U.pfI (ci := 9) (k9 := 9) rfl ⟨by decide, rfl⟩ ⟨rfl, rfl, by decide, rfl⟩ rfl ?_
                show ab_U _ _ _ (113, [some (.ref 232), some (.int q1.1)], [], hp X G (fm_sI q105.2 232 9 ((q105.2.1 232 9) ||| (1 <<< (q1.1 &&& 31))))) _
                rw [e108]
                refine ab_U.run 1 (S' := (114, [some (.ref 232), some (.int q1.1)], [.ref 232], hp X G m107)) rfl ?_
                obtain ⟨q109, h110, hf⟩ := ab_bnd hf
                refine ab_U.fn rfl rfl (t_X9_step (X := X) hG h110) (by omega) ?_
                show ab_U _ _ _ (117, [some (.ref 232), some (.int q1.1)], [], hp X G q109.2) _
                refine ab_U.run 2 (S' := (121, [some (.ref 232), some (.int q1.1)], [.int (q109.2.1 232 15)], hp X G q109.2)) rfl ?_
                refine ab_U.if_le rfl (fun b111 => ?_) (fun b111 => ?_)
                · rw [if_pos b111] at hf
                  refine ab_U.run 2 (S' := (127, [some (.ref 232), some (.int q1.1)], [.int q1.1, .ref 232], hp X G q109.2)) rfl ?_
                  obtain ⟨q112, h113, hf⟩ := ab_bnd hf
                  refine ab_U.fn rfl rfl (t_X9_readMore (X := X) hG h113) (by omega) ?_
                  show ab_U _ _ _ (130, [some (.ref 232), some (.int q1.1)], [], hp X G q112.2) _
                  refine ab_U.run 2 (S' := (134, [some (.ref 232), some (.int q1.1)], [.int (q112.2.1 232 15)], hp X G q112.2)) rfl ?_
                  refine ab_U.if_ne rfl (fun b114 => ?_) (fun b114 => ?_)
                  · rw [if_pos b114] at hf
                    refine ab_U.run 1 (S' := (151, [some (.ref 232), some (.int q1.1)], [.ref 232], hp X G q112.2)) rfl ?_
                    obtain ⟨q115, h116, hf⟩ := ab_bnd hf
                    refine ab_U.fn rfl rfl (t_X9_step (X := X) hG h116) (by omega) ?_
                    show ab_U _ _ _ (154, [some (.ref 232), some (.int q1.1)], [], hp X G q115.2) _
                    obtain rfl := Option.some.inj hf
                    exact ab_U.ret rfl rfl ⟨rfl, rfl⟩
                  · rw [if_neg b114] at hf
                    refine ab_U.run 3 (S' := (142, [some (.ref 232), some (.int q1.1)], [.int 3, .int (q112.2.1 232 19)], hp X G q112.2)) rfl ?_
                    refine ab_U.ic_eq rfl (fun b117 => ?_) (fun b117 => ?_)
                    · rw [if_pos b117] at hf
                      refine ab_U.run 1 (S' := (151, [some (.ref 232), some (.int q1.1)], [.ref 232], hp X G q112.2)) rfl ?_
                      obtain ⟨q118, h119, hf⟩ := ab_bnd hf
                      refine ab_U.fn rfl rfl (t_X9_step (X := X) hG h119) (by omega) ?_
                      show ab_U _ _ _ (154, [some (.ref 232), some (.int q1.1)], [], hp X G q118.2) _
                      obtain rfl := Option.some.inj hf
                      exact ab_U.ret rfl rfl ⟨rfl, rfl⟩
                    · rw [if_neg b117] at hf
                      refine ab_U.run 2 (S' := (147, [some (.ref 232), some (.int q1.1)], [.int 2, .ref 232], hp X G q112.2)) rfl ?_
                      obtain ⟨q120, h121, hf⟩ := ab_bnd hf
                      refine ab_U.fn rfl rfl (t_X9_fails (X := X) hG h121) (by omega) ?_
                      show ab_U _ _ _ (150, [some (.ref 232), some (.int q1.1)], [], hp X G q120.2) _
                      refine ab_U.run 1 (S' := (151, [some (.ref 232), some (.int q1.1)], [.ref 232], hp X G q120.2)) rfl ?_
                      obtain ⟨q122, h123, hf⟩ := ab_bnd hf
                      refine ab_U.fn rfl rfl (t_X9_step (X := X) hG h123) (by omega) ?_
                      show ab_U _ _ _ (154, [some (.ref 232), some (.int q1.1)], [], hp X G q122.2) _
                      obtain rfl := Option.some.inj hf
                      exact ab_U.ret rfl rfl ⟨rfl, rfl⟩
                · rw [if_neg b111] at hf
                  obtain rfl := Option.some.inj hf
                  exact ab_U.ret rfl rfl ⟨rfl, rfl⟩
          · rw [if_neg b66] at hf
            refine ab_U.run 2 (S' := (67, [some (.ref 232), some (.int q1.1)], [.int 5, .ref 232], hp X G q3.2)) rfl ?_
            obtain ⟨q124, h125, hf⟩ := ab_bnd hf
            refine ab_U.fn rfl rfl (t_X9_fails (X := X) hG h125) (by omega) ?_
            show ab_U _ _ _ (70, [some (.ref 232), some (.int q1.1)], [], hp X G q124.2) _
            refine ab_U.run 4 (S' := (78, [some (.ref 232), some (.int q1.1)], [.long (Int64.ofNat 7), .long (Int64.ofNat 6), .long (q1.1).toInt64], hp X G q124.2)) rfl ?_
            obtain ⟨q126, h127, hf⟩ := ab_bnd hf
            refine ab_U.fn rfl rfl (t_X9_in (X := X) hG h127) (by omega) ?_
            show ab_U _ _ _ (81, [some (.ref 232), some (.int q1.1)], [.int q126.1], hp X G q126.2) _
            refine ab_U.if_eq rfl (fun b128 => ?_) (fun b128 => ?_)
            · rw [if_pos b128] at hf
              refine ab_U.run 7 (S' := (110, [some (.ref 232), some (.int q1.1)], [.int ((q126.2.1 232 9) ||| (1 <<< (q1.1 &&& 31))), .ref 232], hp X G q126.2)) rfl ?_
              obtain ⟨m129, e130, hf⟩ := ab_bnd hf
              have e130 := Option.some.inj e130
              refine ab_U.pfI (ci := 9) (k9 := 9) rfl ⟨by decide, rfl⟩ ⟨rfl, rfl, by decide, rfl⟩ rfl ?_
              show ab_U _ _ _ (113, [some (.ref 232), some (.int q1.1)], [], hp X G (fm_sI q126.2 232 9 ((q126.2.1 232 9) ||| (1 <<< (q1.1 &&& 31))))) _
              rw [e130]
              refine ab_U.run 1 (S' := (114, [some (.ref 232), some (.int q1.1)], [.ref 232], hp X G m129)) rfl ?_
              obtain ⟨q131, h132, hf⟩ := ab_bnd hf
              refine ab_U.fn rfl rfl (t_X9_step (X := X) hG h132) (by omega) ?_
              show ab_U _ _ _ (117, [some (.ref 232), some (.int q1.1)], [], hp X G q131.2) _
              refine ab_U.run 2 (S' := (121, [some (.ref 232), some (.int q1.1)], [.int (q131.2.1 232 15)], hp X G q131.2)) rfl ?_
              refine ab_U.if_le rfl (fun b133 => ?_) (fun b133 => ?_)
              · rw [if_pos b133] at hf
                refine ab_U.run 2 (S' := (127, [some (.ref 232), some (.int q1.1)], [.int q1.1, .ref 232], hp X G q131.2)) rfl ?_
                obtain ⟨q134, h135, hf⟩ := ab_bnd hf
                refine ab_U.fn rfl rfl (t_X9_readMore (X := X) hG h135) (by omega) ?_
                show ab_U _ _ _ (130, [some (.ref 232), some (.int q1.1)], [], hp X G q134.2) _
                refine ab_U.run 2 (S' := (134, [some (.ref 232), some (.int q1.1)], [.int (q134.2.1 232 15)], hp X G q134.2)) rfl ?_
                refine ab_U.if_ne rfl (fun b136 => ?_) (fun b136 => ?_)
                · rw [if_pos b136] at hf
                  refine ab_U.run 1 (S' := (151, [some (.ref 232), some (.int q1.1)], [.ref 232], hp X G q134.2)) rfl ?_
                  obtain ⟨q137, h138, hf⟩ := ab_bnd hf
                  refine ab_U.fn rfl rfl (t_X9_step (X := X) hG h138) (by omega) ?_
                  show ab_U _ _ _ (154, [some (.ref 232), some (.int q1.1)], [], hp X G q137.2) _
                  obtain rfl := Option.some.inj hf
                  exact ab_U.ret rfl rfl ⟨rfl, rfl⟩
                · rw [if_neg b136] at hf
                  refine ab_U.run 3 (S' := (142, [some (.ref 232), some (.int q1.1)], [.int 3, .int (q134.2.1 232 19)], hp X G q134.2)) rfl ?_
                  refine ab_U.ic_eq rfl (fun b139 => ?_) (fun b139 => ?_)
                  · rw [if_pos b139] at hf
                    refine ab_U.run 1 (S' := (151, [some (.ref 232), some (.int q1.1)], [.ref 232], hp X G q134.2)) rfl ?_
                    obtain ⟨q140, h141, hf⟩ := ab_bnd hf
                    refine ab_U.fn rfl rfl (t_X9_step (X := X) hG h141) (by omega) ?_
                    show ab_U _ _ _ (154, [some (.ref 232), some (.int q1.1)], [], hp X G q140.2) _
                    obtain rfl := Option.some.inj hf
                    exact ab_U.ret rfl rfl ⟨rfl, rfl⟩
                  · rw [if_neg b139] at hf
                    refine ab_U.run 2 (S' := (147, [some (.ref 232), some (.int q1.1)], [.int 2, .ref 232], hp X G q134.2)) rfl ?_
                    obtain ⟨q142, h143, hf⟩ := ab_bnd hf
                    refine ab_U.fn rfl rfl (t_X9_fails (X := X) hG h143) (by omega) ?_
                    show ab_U _ _ _ (150, [some (.ref 232), some (.int q1.1)], [], hp X G q142.2) _
                    refine ab_U.run 1 (S' := (151, [some (.ref 232), some (.int q1.1)], [.ref 232], hp X G q142.2)) rfl ?_
                    obtain ⟨q144, h145, hf⟩ := ab_bnd hf
                    refine ab_U.fn rfl rfl (t_X9_step (X := X) hG h145) (by omega) ?_
                    show ab_U _ _ _ (154, [some (.ref 232), some (.int q1.1)], [], hp X G q144.2) _
                    obtain rfl := Option.some.inj hf
                    exact ab_U.ret rfl rfl ⟨rfl, rfl⟩
              · rw [if_neg b133] at hf
                obtain rfl := Option.some.inj hf
                exact ab_U.ret rfl rfl ⟨rfl, rfl⟩
            · rw [if_neg b128] at hf
              refine ab_U.run 7 (S' := (93, [some (.ref 232), some (.int q1.1)], [.int 1, .int (((q126.2.1 232 9) >>> (q1.1 &&& 31)) &&& 1)], hp X G q126.2)) rfl ?_
              refine ab_U.ic_ne rfl (fun b146 => ?_) (fun b146 => ?_)
              · rw [if_pos b146] at hf
                refine ab_U.run 7 (S' := (110, [some (.ref 232), some (.int q1.1)], [.int ((q126.2.1 232 9) ||| (1 <<< (q1.1 &&& 31))), .ref 232], hp X G q126.2)) rfl ?_
                obtain ⟨m147, e148, hf⟩ := ab_bnd hf
                have e148 := Option.some.inj e148
                refine ab_U.pfI (ci := 9) (k9 := 9) rfl ⟨by decide, rfl⟩ ⟨rfl, rfl, by decide, rfl⟩ rfl ?_
                show ab_U _ _ _ (113, [some (.ref 232), some (.int q1.1)], [], hp X G (fm_sI q126.2 232 9 ((q126.2.1 232 9) ||| (1 <<< (q1.1 &&& 31))))) _
                rw [e148]
                refine ab_U.run 1 (S' := (114, [some (.ref 232), some (.int q1.1)], [.ref 232], hp X G m147)) rfl ?_
                obtain ⟨q149, h150, hf⟩ := ab_bnd hf
                refine ab_U.fn rfl rfl (t_X9_step (X := X) hG h150) (by omega) ?_
                show ab_U _ _ _ (117, [some (.ref 232), some (.int q1.1)], [], hp X G q149.2) _
                refine ab_U.run 2 (S' := (121, [some (.ref 232), some (.int q1.1)], [.int (q149.2.1 232 15)], hp X G q149.2)) rfl ?_
                refine ab_U.if_le rfl (fun b151 => ?_) (fun b151 => ?_)
                · rw [if_pos b151] at hf
                  refine ab_U.run 2 (S' := (127, [some (.ref 232), some (.int q1.1)], [.int q1.1, .ref 232], hp X G q149.2)) rfl ?_
                  obtain ⟨q152, h153, hf⟩ := ab_bnd hf
                  refine ab_U.fn rfl rfl (t_X9_readMore (X := X) hG h153) (by omega) ?_
                  show ab_U _ _ _ (130, [some (.ref 232), some (.int q1.1)], [], hp X G q152.2) _
                  refine ab_U.run 2 (S' := (134, [some (.ref 232), some (.int q1.1)], [.int (q152.2.1 232 15)], hp X G q152.2)) rfl ?_
                  refine ab_U.if_ne rfl (fun b154 => ?_) (fun b154 => ?_)
                  · rw [if_pos b154] at hf
                    refine ab_U.run 1 (S' := (151, [some (.ref 232), some (.int q1.1)], [.ref 232], hp X G q152.2)) rfl ?_
                    obtain ⟨q155, h156, hf⟩ := ab_bnd hf
                    refine ab_U.fn rfl rfl (t_X9_step (X := X) hG h156) (by omega) ?_
                    show ab_U _ _ _ (154, [some (.ref 232), some (.int q1.1)], [], hp X G q155.2) _
                    obtain rfl := Option.some.inj hf
                    exact ab_U.ret rfl rfl ⟨rfl, rfl⟩
                  · rw [if_neg b154] at hf
                    refine ab_U.run 3 (S' := (142, [some (.ref 232), some (.int q1.1)], [.int 3, .int (q152.2.1 232 19)], hp X G q152.2)) rfl ?_
                    refine ab_U.ic_eq rfl (fun b157 => ?_) (fun b157 => ?_)
                    · rw [if_pos b157] at hf
                      refine ab_U.run 1 (S' := (151, [some (.ref 232), some (.int q1.1)], [.ref 232], hp X G q152.2)) rfl ?_
                      obtain ⟨q158, h159, hf⟩ := ab_bnd hf
                      refine ab_U.fn rfl rfl (t_X9_step (X := X) hG h159) (by omega) ?_
                      show ab_U _ _ _ (154, [some (.ref 232), some (.int q1.1)], [], hp X G q158.2) _
                      obtain rfl := Option.some.inj hf
                      exact ab_U.ret rfl rfl ⟨rfl, rfl⟩
                    · rw [if_neg b157] at hf
                      refine ab_U.run 2 (S' := (147, [some (.ref 232), some (.int q1.1)], [.int 2, .ref 232], hp X G q152.2)) rfl ?_
                      obtain ⟨q160, h161, hf⟩ := ab_bnd hf
                      refine ab_U.fn rfl rfl (t_X9_fails (X := X) hG h161) (by omega) ?_
                      show ab_U _ _ _ (150, [some (.ref 232), some (.int q1.1)], [], hp X G q160.2) _
                      refine ab_U.run 1 (S' := (151, [some (.ref 232), some (.int q1.1)], [.ref 232], hp X G q160.2)) rfl ?_
                      obtain ⟨q162, h163, hf⟩ := ab_bnd hf
                      refine ab_U.fn rfl rfl (t_X9_step (X := X) hG h163) (by omega) ?_
                      show ab_U _ _ _ (154, [some (.ref 232), some (.int q1.1)], [], hp X G q162.2) _
                      obtain rfl := Option.some.inj hf
                      exact ab_U.ret rfl rfl ⟨rfl, rfl⟩
                · rw [if_neg b151] at hf
                  obtain rfl := Option.some.inj hf
                  exact ab_U.ret rfl rfl ⟨rfl, rfl⟩
              · rw [if_neg b146] at hf
                refine ab_U.run 2 (S' := (98, [some (.ref 232), some (.int q1.1)], [.int 4, .ref 232], hp X G q126.2)) rfl ?_
                obtain ⟨q164, h165, hf⟩ := ab_bnd hf
                refine ab_U.fn rfl rfl (t_X9_fails (X := X) hG h165) (by omega) ?_
                show ab_U _ _ _ (101, [some (.ref 232), some (.int q1.1)], [], hp X G q164.2) _
                refine ab_U.run 7 (S' := (110, [some (.ref 232), some (.int q1.1)], [.int ((q164.2.1 232 9) ||| (1 <<< (q1.1 &&& 31))), .ref 232], hp X G q164.2)) rfl ?_
                obtain ⟨m166, e167, hf⟩ := ab_bnd hf
                have e167 := Option.some.inj e167
                refine ab_U.pfI (ci := 9) (k9 := 9) rfl ⟨by decide, rfl⟩ ⟨rfl, rfl, by decide, rfl⟩ rfl ?_
                show ab_U _ _ _ (113, [some (.ref 232), some (.int q1.1)], [], hp X G (fm_sI q164.2 232 9 ((q164.2.1 232 9) ||| (1 <<< (q1.1 &&& 31))))) _
                rw [e167]
                refine ab_U.run 1 (S' := (114, [some (.ref 232), some (.int q1.1)], [.ref 232], hp X G m166)) rfl ?_
                obtain ⟨q168, h169, hf⟩ := ab_bnd hf
                refine ab_U.fn rfl rfl (t_X9_step (X := X) hG h169) (by omega) ?_
                show ab_U _ _ _ (117, [some (.ref 232), some (.int q1.1)], [], hp X G q168.2) _
                refine ab_U.run 2 (S' := (121, [some (.ref 232), some (.int q1.1)], [.int (q168.2.1 232 15)], hp X G q168.2)) rfl ?_
                refine ab_U.if_le rfl (fun b170 => ?_) (fun b170 => ?_)
                · rw [if_pos b170] at hf
                  refine ab_U.run 2 (S' := (127, [some (.ref 232), some (.int q1.1)], [.int q1.1, .ref 232], hp X G q168.2)) rfl ?_
                  obtain ⟨q171, h172, hf⟩ := ab_bnd hf
                  refine ab_U.fn rfl rfl (t_X9_readMore (X := X) hG h172) (by omega) ?_
                  show ab_U _ _ _ (130, [some (.ref 232), some (.int q1.1)], [], hp X G q171.2) _
                  refine ab_U.run 2 (S' := (134, [some (.ref 232), some (.int q1.1)], [.int (q171.2.1 232 15)], hp X G q171.2)) rfl ?_
                  refine ab_U.if_ne rfl (fun b173 => ?_) (fun b173 => ?_)
                  · rw [if_pos b173] at hf
                    refine ab_U.run 1 (S' := (151, [some (.ref 232), some (.int q1.1)], [.ref 232], hp X G q171.2)) rfl ?_
                    obtain ⟨q174, h175, hf⟩ := ab_bnd hf
                    refine ab_U.fn rfl rfl (t_X9_step (X := X) hG h175) (by omega) ?_
                    show ab_U _ _ _ (154, [some (.ref 232), some (.int q1.1)], [], hp X G q174.2) _
                    obtain rfl := Option.some.inj hf
                    exact ab_U.ret rfl rfl ⟨rfl, rfl⟩
                  · rw [if_neg b173] at hf
                    refine ab_U.run 3 (S' := (142, [some (.ref 232), some (.int q1.1)], [.int 3, .int (q171.2.1 232 19)], hp X G q171.2)) rfl ?_
                    refine ab_U.ic_eq rfl (fun b176 => ?_) (fun b176 => ?_)
                    · rw [if_pos b176] at hf
                      refine ab_U.run 1 (S' := (151, [some (.ref 232), some (.int q1.1)], [.ref 232], hp X G q171.2)) rfl ?_
                      obtain ⟨q177, h178, hf⟩ := ab_bnd hf
                      refine ab_U.fn rfl rfl (t_X9_step (X := X) hG h178) (by omega) ?_
                      show ab_U _ _ _ (154, [some (.ref 232), some (.int q1.1)], [], hp X G q177.2) _
                      obtain rfl := Option.some.inj hf
                      exact ab_U.ret rfl rfl ⟨rfl, rfl⟩
                    · rw [if_neg b176] at hf
                      refine ab_U.run 2 (S' := (147, [some (.ref 232), some (.int q1.1)], [.int 2, .ref 232], hp X G q171.2)) rfl ?_
                      obtain ⟨q179, h180, hf⟩ := ab_bnd hf
                      refine ab_U.fn rfl rfl (t_X9_fails (X := X) hG h180) (by omega) ?_
                      show ab_U _ _ _ (150, [some (.ref 232), some (.int q1.1)], [], hp X G q179.2) _
                      refine ab_U.run 1 (S' := (151, [some (.ref 232), some (.int q1.1)], [.ref 232], hp X G q179.2)) rfl ?_
                      obtain ⟨q181, h182, hf⟩ := ab_bnd hf
                      refine ab_U.fn rfl rfl (t_X9_step (X := X) hG h182) (by omega) ?_
                      show ab_U _ _ _ (154, [some (.ref 232), some (.int q1.1)], [], hp X G q181.2) _
                      obtain rfl := Option.some.inj hf
                      exact ab_U.ret rfl rfl ⟨rfl, rfl⟩
                · rw [if_neg b170] at hf
                  obtain rfl := Option.some.inj hf
                  exact ab_U.ret rfl rfl ⟨rfl, rfl⟩
      · rw [if_neg b7] at hf
        refine ab_U.run 3 (S' := (49, [some (.ref 232), some (.int q1.1)], [.int 4, .int (q3.2.1 232 7)], hp X G q3.2)) rfl ?_
        refine ab_U.ic_eq rfl (fun b183 => ?_) (fun b183 => ?_)
        · rw [if_pos b183] at hf
          refine ab_U.run 2 (S' := (67, [some (.ref 232), some (.int q1.1)], [.int 5, .ref 232], hp X G q3.2)) rfl ?_
          obtain ⟨q184, h185, hf⟩ := ab_bnd hf
          refine ab_U.fn rfl rfl (t_X9_fails (X := X) hG h185) (by omega) ?_
          show ab_U _ _ _ (70, [some (.ref 232), some (.int q1.1)], [], hp X G q184.2) _
          refine ab_U.run 4 (S' := (78, [some (.ref 232), some (.int q1.1)], [.long (Int64.ofNat 7), .long (Int64.ofNat 6), .long (q1.1).toInt64], hp X G q184.2)) rfl ?_
          obtain ⟨q186, h187, hf⟩ := ab_bnd hf
          refine ab_U.fn rfl rfl (t_X9_in (X := X) hG h187) (by omega) ?_
          show ab_U _ _ _ (81, [some (.ref 232), some (.int q1.1)], [.int q186.1], hp X G q186.2) _
          refine ab_U.if_eq rfl (fun b188 => ?_) (fun b188 => ?_)
          · rw [if_pos b188] at hf
            refine ab_U.run 7 (S' := (110, [some (.ref 232), some (.int q1.1)], [.int ((q186.2.1 232 9) ||| (1 <<< (q1.1 &&& 31))), .ref 232], hp X G q186.2)) rfl ?_
            obtain ⟨m189, e190, hf⟩ := ab_bnd hf
            have e190 := Option.some.inj e190
            refine ab_U.pfI (ci := 9) (k9 := 9) rfl ⟨by decide, rfl⟩ ⟨rfl, rfl, by decide, rfl⟩ rfl ?_
            show ab_U _ _ _ (113, [some (.ref 232), some (.int q1.1)], [], hp X G (fm_sI q186.2 232 9 ((q186.2.1 232 9) ||| (1 <<< (q1.1 &&& 31))))) _
            rw [e190]
            refine ab_U.run 1 (S' := (114, [some (.ref 232), some (.int q1.1)], [.ref 232], hp X G m189)) rfl ?_
            obtain ⟨q191, h192, hf⟩ := ab_bnd hf
            refine ab_U.fn rfl rfl (t_X9_step (X := X) hG h192) (by omega) ?_
            show ab_U _ _ _ (117, [some (.ref 232), some (.int q1.1)], [], hp X G q191.2) _
            refine ab_U.run 2 (S' := (121, [some (.ref 232), some (.int q1.1)], [.int (q191.2.1 232 15)], hp X G q191.2)) rfl ?_
            refine ab_U.if_le rfl (fun b193 => ?_) (fun b193 => ?_)
            · rw [if_pos b193] at hf
              refine ab_U.run 2 (S' := (127, [some (.ref 232), some (.int q1.1)], [.int q1.1, .ref 232], hp X G q191.2)) rfl ?_
              obtain ⟨q194, h195, hf⟩ := ab_bnd hf
              refine ab_U.fn rfl rfl (t_X9_readMore (X := X) hG h195) (by omega) ?_
              show ab_U _ _ _ (130, [some (.ref 232), some (.int q1.1)], [], hp X G q194.2) _
              refine ab_U.run 2 (S' := (134, [some (.ref 232), some (.int q1.1)], [.int (q194.2.1 232 15)], hp X G q194.2)) rfl ?_
              refine ab_U.if_ne rfl (fun b196 => ?_) (fun b196 => ?_)
              · rw [if_pos b196] at hf
                refine ab_U.run 1 (S' := (151, [some (.ref 232), some (.int q1.1)], [.ref 232], hp X G q194.2)) rfl ?_
                obtain ⟨q197, h198, hf⟩ := ab_bnd hf
                refine ab_U.fn rfl rfl (t_X9_step (X := X) hG h198) (by omega) ?_
                show ab_U _ _ _ (154, [some (.ref 232), some (.int q1.1)], [], hp X G q197.2) _
                obtain rfl := Option.some.inj hf
                exact ab_U.ret rfl rfl ⟨rfl, rfl⟩
              · rw [if_neg b196] at hf
                refine ab_U.run 3 (S' := (142, [some (.ref 232), some (.int q1.1)], [.int 3, .int (q194.2.1 232 19)], hp X G q194.2)) rfl ?_
                refine ab_U.ic_eq rfl (fun b199 => ?_) (fun b199 => ?_)
                · rw [if_pos b199] at hf
                  refine ab_U.run 1 (S' := (151, [some (.ref 232), some (.int q1.1)], [.ref 232], hp X G q194.2)) rfl ?_
                  obtain ⟨q200, h201, hf⟩ := ab_bnd hf
                  refine ab_U.fn rfl rfl (t_X9_step (X := X) hG h201) (by omega) ?_
                  show ab_U _ _ _ (154, [some (.ref 232), some (.int q1.1)], [], hp X G q200.2) _
                  obtain rfl := Option.some.inj hf
                  exact ab_U.ret rfl rfl ⟨rfl, rfl⟩
                · rw [if_neg b199] at hf
                  refine ab_U.run 2 (S' := (147, [some (.ref 232), some (.int q1.1)], [.int 2, .ref 232], hp X G q194.2)) rfl ?_
                  obtain ⟨q202, h203, hf⟩ := ab_bnd hf
                  refine ab_U.fn rfl rfl (t_X9_fails (X := X) hG h203) (by omega) ?_
                  show ab_U _ _ _ (150, [some (.ref 232), some (.int q1.1)], [], hp X G q202.2) _
                  refine ab_U.run 1 (S' := (151, [some (.ref 232), some (.int q1.1)], [.ref 232], hp X G q202.2)) rfl ?_
                  obtain ⟨q204, h205, hf⟩ := ab_bnd hf
                  refine ab_U.fn rfl rfl (t_X9_step (X := X) hG h205) (by omega) ?_
                  show ab_U _ _ _ (154, [some (.ref 232), some (.int q1.1)], [], hp X G q204.2) _
                  obtain rfl := Option.some.inj hf
                  exact ab_U.ret rfl rfl ⟨rfl, rfl⟩
            · rw [if_neg b193] at hf
              obtain rfl := Option.some.inj hf
              exact ab_U.ret rfl rfl ⟨rfl, rfl⟩
          · rw [if_neg b188] at hf
            refine ab_U.run 7 (S' := (93, [some (.ref 232), some (.int q1.1)], [.int 1, .int (((q186.2.1 232 9) >>> (q1.1 &&& 31)) &&& 1)], hp X G q186.2)) rfl ?_
            refine ab_U.ic_ne rfl (fun b206 => ?_) (fun b206 => ?_)
            · rw [if_pos b206] at hf
              refine ab_U.run 7 (S' := (110, [some (.ref 232), some (.int q1.1)], [.int ((q186.2.1 232 9) ||| (1 <<< (q1.1 &&& 31))), .ref 232], hp X G q186.2)) rfl ?_
              obtain ⟨m207, e208, hf⟩ := ab_bnd hf
              have e208 := Option.some.inj e208
              refine ab_U.pfI (ci := 9) (k9 := 9) rfl ⟨by decide, rfl⟩ ⟨rfl, rfl, by decide, rfl⟩ rfl ?_
              show ab_U _ _ _ (113, [some (.ref 232), some (.int q1.1)], [], hp X G (fm_sI q186.2 232 9 ((q186.2.1 232 9) ||| (1 <<< (q1.1 &&& 31))))) _
              rw [e208]
              refine ab_U.run 1 (S' := (114, [some (.ref 232), some (.int q1.1)], [.ref 232], hp X G m207)) rfl ?_
              obtain ⟨q209, h210, hf⟩ := ab_bnd hf
              refine ab_U.fn rfl rfl (t_X9_step (X := X) hG h210) (by omega) ?_
              show ab_U _ _ _ (117, [some (.ref 232), some (.int q1.1)], [], hp X G q209.2) _
              refine ab_U.run 2 (S' := (121, [some (.ref 232), some (.int q1.1)], [.int (q209.2.1 232 15)], hp X G q209.2)) rfl ?_
              refine ab_U.if_le rfl (fun b211 => ?_) (fun b211 => ?_)
              · rw [if_pos b211] at hf
                refine ab_U.run 2 (S' := (127, [some (.ref 232), some (.int q1.1)], [.int q1.1, .ref 232], hp X G q209.2)) rfl ?_
                obtain ⟨q212, h213, hf⟩ := ab_bnd hf
                refine ab_U.fn rfl rfl (t_X9_readMore (X := X) hG h213) (by omega) ?_
                show ab_U _ _ _ (130, [some (.ref 232), some (.int q1.1)], [], hp X G q212.2) _
                refine ab_U.run 2 (S' := (134, [some (.ref 232), some (.int q1.1)], [.int (q212.2.1 232 15)], hp X G q212.2)) rfl ?_
                refine ab_U.if_ne rfl (fun b214 => ?_) (fun b214 => ?_)
                · rw [if_pos b214] at hf
                  refine ab_U.run 1 (S' := (151, [some (.ref 232), some (.int q1.1)], [.ref 232], hp X G q212.2)) rfl ?_
                  obtain ⟨q215, h216, hf⟩ := ab_bnd hf
                  refine ab_U.fn rfl rfl (t_X9_step (X := X) hG h216) (by omega) ?_
                  show ab_U _ _ _ (154, [some (.ref 232), some (.int q1.1)], [], hp X G q215.2) _
                  obtain rfl := Option.some.inj hf
                  exact ab_U.ret rfl rfl ⟨rfl, rfl⟩
                · rw [if_neg b214] at hf
                  refine ab_U.run 3 (S' := (142, [some (.ref 232), some (.int q1.1)], [.int 3, .int (q212.2.1 232 19)], hp X G q212.2)) rfl ?_
                  refine ab_U.ic_eq rfl (fun b217 => ?_) (fun b217 => ?_)
                  · rw [if_pos b217] at hf
                    refine ab_U.run 1 (S' := (151, [some (.ref 232), some (.int q1.1)], [.ref 232], hp X G q212.2)) rfl ?_
                    obtain ⟨q218, h219, hf⟩ := ab_bnd hf
                    refine ab_U.fn rfl rfl (t_X9_step (X := X) hG h219) (by omega) ?_
                    show ab_U _ _ _ (154, [some (.ref 232), some (.int q1.1)], [], hp X G q218.2) _
                    obtain rfl := Option.some.inj hf
                    exact ab_U.ret rfl rfl ⟨rfl, rfl⟩
                  · rw [if_neg b217] at hf
                    refine ab_U.run 2 (S' := (147, [some (.ref 232), some (.int q1.1)], [.int 2, .ref 232], hp X G q212.2)) rfl ?_
                    obtain ⟨q220, h221, hf⟩ := ab_bnd hf
                    refine ab_U.fn rfl rfl (t_X9_fails (X := X) hG h221) (by omega) ?_
                    show ab_U _ _ _ (150, [some (.ref 232), some (.int q1.1)], [], hp X G q220.2) _
                    refine ab_U.run 1 (S' := (151, [some (.ref 232), some (.int q1.1)], [.ref 232], hp X G q220.2)) rfl ?_
                    obtain ⟨q222, h223, hf⟩ := ab_bnd hf
                    refine ab_U.fn rfl rfl (t_X9_step (X := X) hG h223) (by omega) ?_
                    show ab_U _ _ _ (154, [some (.ref 232), some (.int q1.1)], [], hp X G q222.2) _
                    obtain rfl := Option.some.inj hf
                    exact ab_U.ret rfl rfl ⟨rfl, rfl⟩
              · rw [if_neg b211] at hf
                obtain rfl := Option.some.inj hf
                exact ab_U.ret rfl rfl ⟨rfl, rfl⟩
            · rw [if_neg b206] at hf
              refine ab_U.run 2 (S' := (98, [some (.ref 232), some (.int q1.1)], [.int 4, .ref 232], hp X G q186.2)) rfl ?_
              obtain ⟨q224, h225, hf⟩ := ab_bnd hf
              refine ab_U.fn rfl rfl (t_X9_fails (X := X) hG h225) (by omega) ?_
              show ab_U _ _ _ (101, [some (.ref 232), some (.int q1.1)], [], hp X G q224.2) _
              refine ab_U.run 7 (S' := (110, [some (.ref 232), some (.int q1.1)], [.int ((q224.2.1 232 9) ||| (1 <<< (q1.1 &&& 31))), .ref 232], hp X G q224.2)) rfl ?_
              obtain ⟨m226, e227, hf⟩ := ab_bnd hf
              have e227 := Option.some.inj e227
              refine ab_U.pfI (ci := 9) (k9 := 9) rfl ⟨by decide, rfl⟩ ⟨rfl, rfl, by decide, rfl⟩ rfl ?_
              show ab_U _ _ _ (113, [some (.ref 232), some (.int q1.1)], [], hp X G (fm_sI q224.2 232 9 ((q224.2.1 232 9) ||| (1 <<< (q1.1 &&& 31))))) _
              rw [e227]
              refine ab_U.run 1 (S' := (114, [some (.ref 232), some (.int q1.1)], [.ref 232], hp X G m226)) rfl ?_
              obtain ⟨q228, h229, hf⟩ := ab_bnd hf
              refine ab_U.fn rfl rfl (t_X9_step (X := X) hG h229) (by omega) ?_
              show ab_U _ _ _ (117, [some (.ref 232), some (.int q1.1)], [], hp X G q228.2) _
              refine ab_U.run 2 (S' := (121, [some (.ref 232), some (.int q1.1)], [.int (q228.2.1 232 15)], hp X G q228.2)) rfl ?_
              refine ab_U.if_le rfl (fun b230 => ?_) (fun b230 => ?_)
              · rw [if_pos b230] at hf
                refine ab_U.run 2 (S' := (127, [some (.ref 232), some (.int q1.1)], [.int q1.1, .ref 232], hp X G q228.2)) rfl ?_
                obtain ⟨q231, h232, hf⟩ := ab_bnd hf
                refine ab_U.fn rfl rfl (t_X9_readMore (X := X) hG h232) (by omega) ?_
                show ab_U _ _ _ (130, [some (.ref 232), some (.int q1.1)], [], hp X G q231.2) _
                refine ab_U.run 2 (S' := (134, [some (.ref 232), some (.int q1.1)], [.int (q231.2.1 232 15)], hp X G q231.2)) rfl ?_
                refine ab_U.if_ne rfl (fun b233 => ?_) (fun b233 => ?_)
                · rw [if_pos b233] at hf
                  refine ab_U.run 1 (S' := (151, [some (.ref 232), some (.int q1.1)], [.ref 232], hp X G q231.2)) rfl ?_
                  obtain ⟨q234, h235, hf⟩ := ab_bnd hf
                  refine ab_U.fn rfl rfl (t_X9_step (X := X) hG h235) (by omega) ?_
                  show ab_U _ _ _ (154, [some (.ref 232), some (.int q1.1)], [], hp X G q234.2) _
                  obtain rfl := Option.some.inj hf
                  exact ab_U.ret rfl rfl ⟨rfl, rfl⟩
                · rw [if_neg b233] at hf
                  refine ab_U.run 3 (S' := (142, [some (.ref 232), some (.int q1.1)], [.int 3, .int (q231.2.1 232 19)], hp X G q231.2)) rfl ?_
                  refine ab_U.ic_eq rfl (fun b236 => ?_) (fun b236 => ?_)
                  · rw [if_pos b236] at hf
                    refine ab_U.run 1 (S' := (151, [some (.ref 232), some (.int q1.1)], [.ref 232], hp X G q231.2)) rfl ?_
                    obtain ⟨q237, h238, hf⟩ := ab_bnd hf
                    refine ab_U.fn rfl rfl (t_X9_step (X := X) hG h238) (by omega) ?_
                    show ab_U _ _ _ (154, [some (.ref 232), some (.int q1.1)], [], hp X G q237.2) _
                    obtain rfl := Option.some.inj hf
                    exact ab_U.ret rfl rfl ⟨rfl, rfl⟩
                  · rw [if_neg b236] at hf
                    refine ab_U.run 2 (S' := (147, [some (.ref 232), some (.int q1.1)], [.int 2, .ref 232], hp X G q231.2)) rfl ?_
                    obtain ⟨q239, h240, hf⟩ := ab_bnd hf
                    refine ab_U.fn rfl rfl (t_X9_fails (X := X) hG h240) (by omega) ?_
                    show ab_U _ _ _ (150, [some (.ref 232), some (.int q1.1)], [], hp X G q239.2) _
                    refine ab_U.run 1 (S' := (151, [some (.ref 232), some (.int q1.1)], [.ref 232], hp X G q239.2)) rfl ?_
                    obtain ⟨q241, h242, hf⟩ := ab_bnd hf
                    refine ab_U.fn rfl rfl (t_X9_step (X := X) hG h242) (by omega) ?_
                    show ab_U _ _ _ (154, [some (.ref 232), some (.int q1.1)], [], hp X G q241.2) _
                    obtain rfl := Option.some.inj hf
                    exact ab_U.ret rfl rfl ⟨rfl, rfl⟩
              · rw [if_neg b230] at hf
                obtain rfl := Option.some.inj hf
                exact ab_U.ret rfl rfl ⟨rfl, rfl⟩
        · rw [if_neg b183] at hf
          refine ab_U.run 2 (S' := (54, [some (.ref 232), some (.int q1.1)], [.int 5, .int q1.1], hp X G q3.2)) rfl ?_
          refine ab_U.ic_ne rfl (fun b243 => ?_) (fun b243 => ?_)
          · rw [if_pos b243] at hf
            refine ab_U.run 4 (S' := (78, [some (.ref 232), some (.int q1.1)], [.long (Int64.ofNat 7), .long (Int64.ofNat 6), .long (q1.1).toInt64], hp X G q3.2)) rfl ?_
            obtain ⟨q244, h245, hf⟩ := ab_bnd hf
            refine ab_U.fn rfl rfl (t_X9_in (X := X) hG h245) (by omega) ?_
            show ab_U _ _ _ (81, [some (.ref 232), some (.int q1.1)], [.int q244.1], hp X G q244.2) _
            refine ab_U.if_eq rfl (fun b246 => ?_) (fun b246 => ?_)
            · rw [if_pos b246] at hf
              refine ab_U.run 7 (S' := (110, [some (.ref 232), some (.int q1.1)], [.int ((q244.2.1 232 9) ||| (1 <<< (q1.1 &&& 31))), .ref 232], hp X G q244.2)) rfl ?_
              obtain ⟨m247, e248, hf⟩ := ab_bnd hf
              have e248 := Option.some.inj e248
              refine ab_U.pfI (ci := 9) (k9 := 9) rfl ⟨by decide, rfl⟩ ⟨rfl, rfl, by decide, rfl⟩ rfl ?_
              show ab_U _ _ _ (113, [some (.ref 232), some (.int q1.1)], [], hp X G (fm_sI q244.2 232 9 ((q244.2.1 232 9) ||| (1 <<< (q1.1 &&& 31))))) _
              rw [e248]
              refine ab_U.run 1 (S' := (114, [some (.ref 232), some (.int q1.1)], [.ref 232], hp X G m247)) rfl ?_
              obtain ⟨q249, h250, hf⟩ := ab_bnd hf
              refine ab_U.fn rfl rfl (t_X9_step (X := X) hG h250) (by omega) ?_
              show ab_U _ _ _ (117, [some (.ref 232), some (.int q1.1)], [], hp X G q249.2) _
              refine ab_U.run 2 (S' := (121, [some (.ref 232), some (.int q1.1)], [.int (q249.2.1 232 15)], hp X G q249.2)) rfl ?_
              refine ab_U.if_le rfl (fun b251 => ?_) (fun b251 => ?_)
              · rw [if_pos b251] at hf
                refine ab_U.run 2 (S' := (127, [some (.ref 232), some (.int q1.1)], [.int q1.1, .ref 232], hp X G q249.2)) rfl ?_
                obtain ⟨q252, h253, hf⟩ := ab_bnd hf
                refine ab_U.fn rfl rfl (t_X9_readMore (X := X) hG h253) (by omega) ?_
                show ab_U _ _ _ (130, [some (.ref 232), some (.int q1.1)], [], hp X G q252.2) _
                refine ab_U.run 2 (S' := (134, [some (.ref 232), some (.int q1.1)], [.int (q252.2.1 232 15)], hp X G q252.2)) rfl ?_
                refine ab_U.if_ne rfl (fun b254 => ?_) (fun b254 => ?_)
                · rw [if_pos b254] at hf
                  refine ab_U.run 1 (S' := (151, [some (.ref 232), some (.int q1.1)], [.ref 232], hp X G q252.2)) rfl ?_
                  obtain ⟨q255, h256, hf⟩ := ab_bnd hf
                  refine ab_U.fn rfl rfl (t_X9_step (X := X) hG h256) (by omega) ?_
                  show ab_U _ _ _ (154, [some (.ref 232), some (.int q1.1)], [], hp X G q255.2) _
                  obtain rfl := Option.some.inj hf
                  exact ab_U.ret rfl rfl ⟨rfl, rfl⟩
                · rw [if_neg b254] at hf
                  refine ab_U.run 3 (S' := (142, [some (.ref 232), some (.int q1.1)], [.int 3, .int (q252.2.1 232 19)], hp X G q252.2)) rfl ?_
                  refine ab_U.ic_eq rfl (fun b257 => ?_) (fun b257 => ?_)
                  · rw [if_pos b257] at hf
                    refine ab_U.run 1 (S' := (151, [some (.ref 232), some (.int q1.1)], [.ref 232], hp X G q252.2)) rfl ?_
                    obtain ⟨q258, h259, hf⟩ := ab_bnd hf
                    refine ab_U.fn rfl rfl (t_X9_step (X := X) hG h259) (by omega) ?_
                    show ab_U _ _ _ (154, [some (.ref 232), some (.int q1.1)], [], hp X G q258.2) _
                    obtain rfl := Option.some.inj hf
                    exact ab_U.ret rfl rfl ⟨rfl, rfl⟩
                  · rw [if_neg b257] at hf
                    refine ab_U.run 2 (S' := (147, [some (.ref 232), some (.int q1.1)], [.int 2, .ref 232], hp X G q252.2)) rfl ?_
                    obtain ⟨q260, h261, hf⟩ := ab_bnd hf
                    refine ab_U.fn rfl rfl (t_X9_fails (X := X) hG h261) (by omega) ?_
                    show ab_U _ _ _ (150, [some (.ref 232), some (.int q1.1)], [], hp X G q260.2) _
                    refine ab_U.run 1 (S' := (151, [some (.ref 232), some (.int q1.1)], [.ref 232], hp X G q260.2)) rfl ?_
                    obtain ⟨q262, h263, hf⟩ := ab_bnd hf
                    refine ab_U.fn rfl rfl (t_X9_step (X := X) hG h263) (by omega) ?_
                    show ab_U _ _ _ (154, [some (.ref 232), some (.int q1.1)], [], hp X G q262.2) _
                    obtain rfl := Option.some.inj hf
                    exact ab_U.ret rfl rfl ⟨rfl, rfl⟩
              · rw [if_neg b251] at hf
                obtain rfl := Option.some.inj hf
                exact ab_U.ret rfl rfl ⟨rfl, rfl⟩
            · rw [if_neg b246] at hf
              refine ab_U.run 7 (S' := (93, [some (.ref 232), some (.int q1.1)], [.int 1, .int (((q244.2.1 232 9) >>> (q1.1 &&& 31)) &&& 1)], hp X G q244.2)) rfl ?_
              refine ab_U.ic_ne rfl (fun b264 => ?_) (fun b264 => ?_)
              · rw [if_pos b264] at hf
                refine ab_U.run 7 (S' := (110, [some (.ref 232), some (.int q1.1)], [.int ((q244.2.1 232 9) ||| (1 <<< (q1.1 &&& 31))), .ref 232], hp X G q244.2)) rfl ?_
                obtain ⟨m265, e266, hf⟩ := ab_bnd hf
                have e266 := Option.some.inj e266
                refine ab_U.pfI (ci := 9) (k9 := 9) rfl ⟨by decide, rfl⟩ ⟨rfl, rfl, by decide, rfl⟩ rfl ?_
                show ab_U _ _ _ (113, [some (.ref 232), some (.int q1.1)], [], hp X G (fm_sI q244.2 232 9 ((q244.2.1 232 9) ||| (1 <<< (q1.1 &&& 31))))) _
                rw [e266]
                refine ab_U.run 1 (S' := (114, [some (.ref 232), some (.int q1.1)], [.ref 232], hp X G m265)) rfl ?_
                obtain ⟨q267, h268, hf⟩ := ab_bnd hf
                refine ab_U.fn rfl rfl (t_X9_step (X := X) hG h268) (by omega) ?_
                show ab_U _ _ _ (117, [some (.ref 232), some (.int q1.1)], [], hp X G q267.2) _
                refine ab_U.run 2 (S' := (121, [some (.ref 232), some (.int q1.1)], [.int (q267.2.1 232 15)], hp X G q267.2)) rfl ?_
                refine ab_U.if_le rfl (fun b269 => ?_) (fun b269 => ?_)
                · rw [if_pos b269] at hf
                  refine ab_U.run 2 (S' := (127, [some (.ref 232), some (.int q1.1)], [.int q1.1, .ref 232], hp X G q267.2)) rfl ?_
                  obtain ⟨q270, h271, hf⟩ := ab_bnd hf
                  refine ab_U.fn rfl rfl (t_X9_readMore (X := X) hG h271) (by omega) ?_
                  show ab_U _ _ _ (130, [some (.ref 232), some (.int q1.1)], [], hp X G q270.2) _
                  refine ab_U.run 2 (S' := (134, [some (.ref 232), some (.int q1.1)], [.int (q270.2.1 232 15)], hp X G q270.2)) rfl ?_
                  refine ab_U.if_ne rfl (fun b272 => ?_) (fun b272 => ?_)
                  · rw [if_pos b272] at hf
                    refine ab_U.run 1 (S' := (151, [some (.ref 232), some (.int q1.1)], [.ref 232], hp X G q270.2)) rfl ?_
                    obtain ⟨q273, h274, hf⟩ := ab_bnd hf
                    refine ab_U.fn rfl rfl (t_X9_step (X := X) hG h274) (by omega) ?_
                    show ab_U _ _ _ (154, [some (.ref 232), some (.int q1.1)], [], hp X G q273.2) _
                    obtain rfl := Option.some.inj hf
                    exact ab_U.ret rfl rfl ⟨rfl, rfl⟩
                  · rw [if_neg b272] at hf
                    refine ab_U.run 3 (S' := (142, [some (.ref 232), some (.int q1.1)], [.int 3, .int (q270.2.1 232 19)], hp X G q270.2)) rfl ?_
                    refine ab_U.ic_eq rfl (fun b275 => ?_) (fun b275 => ?_)
                    · rw [if_pos b275] at hf
                      refine ab_U.run 1 (S' := (151, [some (.ref 232), some (.int q1.1)], [.ref 232], hp X G q270.2)) rfl ?_
                      obtain ⟨q276, h277, hf⟩ := ab_bnd hf
                      refine ab_U.fn rfl rfl (t_X9_step (X := X) hG h277) (by omega) ?_
                      show ab_U _ _ _ (154, [some (.ref 232), some (.int q1.1)], [], hp X G q276.2) _
                      obtain rfl := Option.some.inj hf
                      exact ab_U.ret rfl rfl ⟨rfl, rfl⟩
                    · rw [if_neg b275] at hf
                      refine ab_U.run 2 (S' := (147, [some (.ref 232), some (.int q1.1)], [.int 2, .ref 232], hp X G q270.2)) rfl ?_
                      obtain ⟨q278, h279, hf⟩ := ab_bnd hf
                      refine ab_U.fn rfl rfl (t_X9_fails (X := X) hG h279) (by omega) ?_
                      show ab_U _ _ _ (150, [some (.ref 232), some (.int q1.1)], [], hp X G q278.2) _
                      refine ab_U.run 1 (S' := (151, [some (.ref 232), some (.int q1.1)], [.ref 232], hp X G q278.2)) rfl ?_
                      obtain ⟨q280, h281, hf⟩ := ab_bnd hf
                      refine ab_U.fn rfl rfl (t_X9_step (X := X) hG h281) (by omega) ?_
                      show ab_U _ _ _ (154, [some (.ref 232), some (.int q1.1)], [], hp X G q280.2) _
                      obtain rfl := Option.some.inj hf
                      exact ab_U.ret rfl rfl ⟨rfl, rfl⟩
                · rw [if_neg b269] at hf
                  obtain rfl := Option.some.inj hf
                  exact ab_U.ret rfl rfl ⟨rfl, rfl⟩
              · rw [if_neg b264] at hf
                refine ab_U.run 2 (S' := (98, [some (.ref 232), some (.int q1.1)], [.int 4, .ref 232], hp X G q244.2)) rfl ?_
                obtain ⟨q282, h283, hf⟩ := ab_bnd hf
                refine ab_U.fn rfl rfl (t_X9_fails (X := X) hG h283) (by omega) ?_
                show ab_U _ _ _ (101, [some (.ref 232), some (.int q1.1)], [], hp X G q282.2) _
                refine ab_U.run 7 (S' := (110, [some (.ref 232), some (.int q1.1)], [.int ((q282.2.1 232 9) ||| (1 <<< (q1.1 &&& 31))), .ref 232], hp X G q282.2)) rfl ?_
                obtain ⟨m284, e285, hf⟩ := ab_bnd hf
                have e285 := Option.some.inj e285
                refine ab_U.pfI (ci := 9) (k9 := 9) rfl ⟨by decide, rfl⟩ ⟨rfl, rfl, by decide, rfl⟩ rfl ?_
                show ab_U _ _ _ (113, [some (.ref 232), some (.int q1.1)], [], hp X G (fm_sI q282.2 232 9 ((q282.2.1 232 9) ||| (1 <<< (q1.1 &&& 31))))) _
                rw [e285]
                refine ab_U.run 1 (S' := (114, [some (.ref 232), some (.int q1.1)], [.ref 232], hp X G m284)) rfl ?_
                obtain ⟨q286, h287, hf⟩ := ab_bnd hf
                refine ab_U.fn rfl rfl (t_X9_step (X := X) hG h287) (by omega) ?_
                show ab_U _ _ _ (117, [some (.ref 232), some (.int q1.1)], [], hp X G q286.2) _
                refine ab_U.run 2 (S' := (121, [some (.ref 232), some (.int q1.1)], [.int (q286.2.1 232 15)], hp X G q286.2)) rfl ?_
                refine ab_U.if_le rfl (fun b288 => ?_) (fun b288 => ?_)
                · rw [if_pos b288] at hf
                  refine ab_U.run 2 (S' := (127, [some (.ref 232), some (.int q1.1)], [.int q1.1, .ref 232], hp X G q286.2)) rfl ?_
                  obtain ⟨q289, h290, hf⟩ := ab_bnd hf
                  refine ab_U.fn rfl rfl (t_X9_readMore (X := X) hG h290) (by omega) ?_
                  show ab_U _ _ _ (130, [some (.ref 232), some (.int q1.1)], [], hp X G q289.2) _
                  refine ab_U.run 2 (S' := (134, [some (.ref 232), some (.int q1.1)], [.int (q289.2.1 232 15)], hp X G q289.2)) rfl ?_
                  refine ab_U.if_ne rfl (fun b291 => ?_) (fun b291 => ?_)
                  · rw [if_pos b291] at hf
                    refine ab_U.run 1 (S' := (151, [some (.ref 232), some (.int q1.1)], [.ref 232], hp X G q289.2)) rfl ?_
                    obtain ⟨q292, h293, hf⟩ := ab_bnd hf
                    refine ab_U.fn rfl rfl (t_X9_step (X := X) hG h293) (by omega) ?_
                    show ab_U _ _ _ (154, [some (.ref 232), some (.int q1.1)], [], hp X G q292.2) _
                    obtain rfl := Option.some.inj hf
                    exact ab_U.ret rfl rfl ⟨rfl, rfl⟩
                  · rw [if_neg b291] at hf
                    refine ab_U.run 3 (S' := (142, [some (.ref 232), some (.int q1.1)], [.int 3, .int (q289.2.1 232 19)], hp X G q289.2)) rfl ?_
                    refine ab_U.ic_eq rfl (fun b294 => ?_) (fun b294 => ?_)
                    · rw [if_pos b294] at hf
                      refine ab_U.run 1 (S' := (151, [some (.ref 232), some (.int q1.1)], [.ref 232], hp X G q289.2)) rfl ?_
                      obtain ⟨q295, h296, hf⟩ := ab_bnd hf
                      refine ab_U.fn rfl rfl (t_X9_step (X := X) hG h296) (by omega) ?_
                      show ab_U _ _ _ (154, [some (.ref 232), some (.int q1.1)], [], hp X G q295.2) _
                      obtain rfl := Option.some.inj hf
                      exact ab_U.ret rfl rfl ⟨rfl, rfl⟩
                    · rw [if_neg b294] at hf
                      refine ab_U.run 2 (S' := (147, [some (.ref 232), some (.int q1.1)], [.int 2, .ref 232], hp X G q289.2)) rfl ?_
                      obtain ⟨q297, h298, hf⟩ := ab_bnd hf
                      refine ab_U.fn rfl rfl (t_X9_fails (X := X) hG h298) (by omega) ?_
                      show ab_U _ _ _ (150, [some (.ref 232), some (.int q1.1)], [], hp X G q297.2) _
                      refine ab_U.run 1 (S' := (151, [some (.ref 232), some (.int q1.1)], [.ref 232], hp X G q297.2)) rfl ?_
                      obtain ⟨q299, h300, hf⟩ := ab_bnd hf
                      refine ab_U.fn rfl rfl (t_X9_step (X := X) hG h300) (by omega) ?_
                      show ab_U _ _ _ (154, [some (.ref 232), some (.int q1.1)], [], hp X G q299.2) _
                      obtain rfl := Option.some.inj hf
                      exact ab_U.ret rfl rfl ⟨rfl, rfl⟩
                · rw [if_neg b288] at hf
                  obtain rfl := Option.some.inj hf
                  exact ab_U.ret rfl rfl ⟨rfl, rfl⟩
          · rw [if_neg b243] at hf
            refine ab_U.run 3 (S' := (62, [some (.ref 232), some (.int q1.1)], [.int 4, .int (q3.2.1 232 8)], hp X G q3.2)) rfl ?_
            refine ab_U.ic_ne rfl (fun b301 => ?_) (fun b301 => ?_)
            · rw [if_pos b301] at hf
              refine ab_U.run 4 (S' := (78, [some (.ref 232), some (.int q1.1)], [.long (Int64.ofNat 7), .long (Int64.ofNat 6), .long (q1.1).toInt64], hp X G q3.2)) rfl ?_
              obtain ⟨q302, h303, hf⟩ := ab_bnd hf
              refine ab_U.fn rfl rfl (t_X9_in (X := X) hG h303) (by omega) ?_
              show ab_U _ _ _ (81, [some (.ref 232), some (.int q1.1)], [.int q302.1], hp X G q302.2) _
              refine ab_U.if_eq rfl (fun b304 => ?_) (fun b304 => ?_)
              · rw [if_pos b304] at hf
                refine ab_U.run 7 (S' := (110, [some (.ref 232), some (.int q1.1)], [.int ((q302.2.1 232 9) ||| (1 <<< (q1.1 &&& 31))), .ref 232], hp X G q302.2)) rfl ?_
                obtain ⟨m305, e306, hf⟩ := ab_bnd hf
                have e306 := Option.some.inj e306
                refine ab_U.pfI (ci := 9) (k9 := 9) rfl ⟨by decide, rfl⟩ ⟨rfl, rfl, by decide, rfl⟩ rfl ?_
                show ab_U _ _ _ (113, [some (.ref 232), some (.int q1.1)], [], hp X G (fm_sI q302.2 232 9 ((q302.2.1 232 9) ||| (1 <<< (q1.1 &&& 31))))) _
                rw [e306]
                refine ab_U.run 1 (S' := (114, [some (.ref 232), some (.int q1.1)], [.ref 232], hp X G m305)) rfl ?_
                obtain ⟨q307, h308, hf⟩ := ab_bnd hf
                refine ab_U.fn rfl rfl (t_X9_step (X := X) hG h308) (by omega) ?_
                show ab_U _ _ _ (117, [some (.ref 232), some (.int q1.1)], [], hp X G q307.2) _
                refine ab_U.run 2 (S' := (121, [some (.ref 232), some (.int q1.1)], [.int (q307.2.1 232 15)], hp X G q307.2)) rfl ?_
                refine ab_U.if_le rfl (fun b309 => ?_) (fun b309 => ?_)
                · rw [if_pos b309] at hf
                  refine ab_U.run 2 (S' := (127, [some (.ref 232), some (.int q1.1)], [.int q1.1, .ref 232], hp X G q307.2)) rfl ?_
                  obtain ⟨q310, h311, hf⟩ := ab_bnd hf
                  refine ab_U.fn rfl rfl (t_X9_readMore (X := X) hG h311) (by omega) ?_
                  show ab_U _ _ _ (130, [some (.ref 232), some (.int q1.1)], [], hp X G q310.2) _
                  refine ab_U.run 2 (S' := (134, [some (.ref 232), some (.int q1.1)], [.int (q310.2.1 232 15)], hp X G q310.2)) rfl ?_
                  refine ab_U.if_ne rfl (fun b312 => ?_) (fun b312 => ?_)
                  · rw [if_pos b312] at hf
                    refine ab_U.run 1 (S' := (151, [some (.ref 232), some (.int q1.1)], [.ref 232], hp X G q310.2)) rfl ?_
                    obtain ⟨q313, h314, hf⟩ := ab_bnd hf
                    refine ab_U.fn rfl rfl (t_X9_step (X := X) hG h314) (by omega) ?_
                    show ab_U _ _ _ (154, [some (.ref 232), some (.int q1.1)], [], hp X G q313.2) _
                    obtain rfl := Option.some.inj hf
                    exact ab_U.ret rfl rfl ⟨rfl, rfl⟩
                  · rw [if_neg b312] at hf
                    refine ab_U.run 3 (S' := (142, [some (.ref 232), some (.int q1.1)], [.int 3, .int (q310.2.1 232 19)], hp X G q310.2)) rfl ?_
                    refine ab_U.ic_eq rfl (fun b315 => ?_) (fun b315 => ?_)
                    · rw [if_pos b315] at hf
                      refine ab_U.run 1 (S' := (151, [some (.ref 232), some (.int q1.1)], [.ref 232], hp X G q310.2)) rfl ?_
                      obtain ⟨q316, h317, hf⟩ := ab_bnd hf
                      refine ab_U.fn rfl rfl (t_X9_step (X := X) hG h317) (by omega) ?_
                      show ab_U _ _ _ (154, [some (.ref 232), some (.int q1.1)], [], hp X G q316.2) _
                      obtain rfl := Option.some.inj hf
                      exact ab_U.ret rfl rfl ⟨rfl, rfl⟩
                    · rw [if_neg b315] at hf
                      refine ab_U.run 2 (S' := (147, [some (.ref 232), some (.int q1.1)], [.int 2, .ref 232], hp X G q310.2)) rfl ?_
                      obtain ⟨q318, h319, hf⟩ := ab_bnd hf
                      refine ab_U.fn rfl rfl (t_X9_fails (X := X) hG h319) (by omega) ?_
                      show ab_U _ _ _ (150, [some (.ref 232), some (.int q1.1)], [], hp X G q318.2) _
                      refine ab_U.run 1 (S' := (151, [some (.ref 232), some (.int q1.1)], [.ref 232], hp X G q318.2)) rfl ?_
                      obtain ⟨q320, h321, hf⟩ := ab_bnd hf
                      refine ab_U.fn rfl rfl (t_X9_step (X := X) hG h321) (by omega) ?_
                      show ab_U _ _ _ (154, [some (.ref 232), some (.int q1.1)], [], hp X G q320.2) _
                      obtain rfl := Option.some.inj hf
                      exact ab_U.ret rfl rfl ⟨rfl, rfl⟩
                · rw [if_neg b309] at hf
                  obtain rfl := Option.some.inj hf
                  exact ab_U.ret rfl rfl ⟨rfl, rfl⟩
              · rw [if_neg b304] at hf
                refine ab_U.run 7 (S' := (93, [some (.ref 232), some (.int q1.1)], [.int 1, .int (((q302.2.1 232 9) >>> (q1.1 &&& 31)) &&& 1)], hp X G q302.2)) rfl ?_
                refine ab_U.ic_ne rfl (fun b322 => ?_) (fun b322 => ?_)
                · rw [if_pos b322] at hf
                  refine ab_U.run 7 (S' := (110, [some (.ref 232), some (.int q1.1)], [.int ((q302.2.1 232 9) ||| (1 <<< (q1.1 &&& 31))), .ref 232], hp X G q302.2)) rfl ?_
                  obtain ⟨m323, e324, hf⟩ := ab_bnd hf
                  have e324 := Option.some.inj e324
                  refine ab_U.pfI (ci := 9) (k9 := 9) rfl ⟨by decide, rfl⟩ ⟨rfl, rfl, by decide, rfl⟩ rfl ?_
                  show ab_U _ _ _ (113, [some (.ref 232), some (.int q1.1)], [], hp X G (fm_sI q302.2 232 9 ((q302.2.1 232 9) ||| (1 <<< (q1.1 &&& 31))))) _
                  rw [e324]
                  refine ab_U.run 1 (S' := (114, [some (.ref 232), some (.int q1.1)], [.ref 232], hp X G m323)) rfl ?_
                  obtain ⟨q325, h326, hf⟩ := ab_bnd hf
                  refine ab_U.fn rfl rfl (t_X9_step (X := X) hG h326) (by omega) ?_
                  show ab_U _ _ _ (117, [some (.ref 232), some (.int q1.1)], [], hp X G q325.2) _
                  refine ab_U.run 2 (S' := (121, [some (.ref 232), some (.int q1.1)], [.int (q325.2.1 232 15)], hp X G q325.2)) rfl ?_
                  refine ab_U.if_le rfl (fun b327 => ?_) (fun b327 => ?_)
                  · rw [if_pos b327] at hf
                    refine ab_U.run 2 (S' := (127, [some (.ref 232), some (.int q1.1)], [.int q1.1, .ref 232], hp X G q325.2)) rfl ?_
                    obtain ⟨q328, h329, hf⟩ := ab_bnd hf
                    refine ab_U.fn rfl rfl (t_X9_readMore (X := X) hG h329) (by omega) ?_
                    show ab_U _ _ _ (130, [some (.ref 232), some (.int q1.1)], [], hp X G q328.2) _
                    refine ab_U.run 2 (S' := (134, [some (.ref 232), some (.int q1.1)], [.int (q328.2.1 232 15)], hp X G q328.2)) rfl ?_
                    refine ab_U.if_ne rfl (fun b330 => ?_) (fun b330 => ?_)
                    · rw [if_pos b330] at hf
                      refine ab_U.run 1 (S' := (151, [some (.ref 232), some (.int q1.1)], [.ref 232], hp X G q328.2)) rfl ?_
                      obtain ⟨q331, h332, hf⟩ := ab_bnd hf
                      refine ab_U.fn rfl rfl (t_X9_step (X := X) hG h332) (by omega) ?_
                      show ab_U _ _ _ (154, [some (.ref 232), some (.int q1.1)], [], hp X G q331.2) _
                      obtain rfl := Option.some.inj hf
                      exact ab_U.ret rfl rfl ⟨rfl, rfl⟩
                    · rw [if_neg b330] at hf
                      refine ab_U.run 3 (S' := (142, [some (.ref 232), some (.int q1.1)], [.int 3, .int (q328.2.1 232 19)], hp X G q328.2)) rfl ?_
                      refine ab_U.ic_eq rfl (fun b333 => ?_) (fun b333 => ?_)
                      · rw [if_pos b333] at hf
                        refine ab_U.run 1 (S' := (151, [some (.ref 232), some (.int q1.1)], [.ref 232], hp X G q328.2)) rfl ?_
                        obtain ⟨q334, h335, hf⟩ := ab_bnd hf
                        refine ab_U.fn rfl rfl (t_X9_step (X := X) hG h335) (by omega) ?_
                        show ab_U _ _ _ (154, [some (.ref 232), some (.int q1.1)], [], hp X G q334.2) _
                        obtain rfl := Option.some.inj hf
                        exact ab_U.ret rfl rfl ⟨rfl, rfl⟩
                      · rw [if_neg b333] at hf
                        refine ab_U.run 2 (S' := (147, [some (.ref 232), some (.int q1.1)], [.int 2, .ref 232], hp X G q328.2)) rfl ?_
                        obtain ⟨q336, h337, hf⟩ := ab_bnd hf
                        refine ab_U.fn rfl rfl (t_X9_fails (X := X) hG h337) (by omega) ?_
                        show ab_U _ _ _ (150, [some (.ref 232), some (.int q1.1)], [], hp X G q336.2) _
                        refine ab_U.run 1 (S' := (151, [some (.ref 232), some (.int q1.1)], [.ref 232], hp X G q336.2)) rfl ?_
                        obtain ⟨q338, h339, hf⟩ := ab_bnd hf
                        refine ab_U.fn rfl rfl (t_X9_step (X := X) hG h339) (by omega) ?_
                        show ab_U _ _ _ (154, [some (.ref 232), some (.int q1.1)], [], hp X G q338.2) _
                        obtain rfl := Option.some.inj hf
                        exact ab_U.ret rfl rfl ⟨rfl, rfl⟩
                  · rw [if_neg b327] at hf
                    obtain rfl := Option.some.inj hf
                    exact ab_U.ret rfl rfl ⟨rfl, rfl⟩
                · rw [if_neg b322] at hf
                  refine ab_U.run 2 (S' := (98, [some (.ref 232), some (.int q1.1)], [.int 4, .ref 232], hp X G q302.2)) rfl ?_
                  obtain ⟨q340, h341, hf⟩ := ab_bnd hf
                  refine ab_U.fn rfl rfl (t_X9_fails (X := X) hG h341) (by omega) ?_
                  show ab_U _ _ _ (101, [some (.ref 232), some (.int q1.1)], [], hp X G q340.2) _
                  refine ab_U.run 7 (S' := (110, [some (.ref 232), some (.int q1.1)], [.int ((q340.2.1 232 9) ||| (1 <<< (q1.1 &&& 31))), .ref 232], hp X G q340.2)) rfl ?_
                  obtain ⟨m342, e343, hf⟩ := ab_bnd hf
                  have e343 := Option.some.inj e343
                  refine ab_U.pfI (ci := 9) (k9 := 9) rfl ⟨by decide, rfl⟩ ⟨rfl, rfl, by decide, rfl⟩ rfl ?_
                  show ab_U _ _ _ (113, [some (.ref 232), some (.int q1.1)], [], hp X G (fm_sI q340.2 232 9 ((q340.2.1 232 9) ||| (1 <<< (q1.1 &&& 31))))) _
                  rw [e343]
                  refine ab_U.run 1 (S' := (114, [some (.ref 232), some (.int q1.1)], [.ref 232], hp X G m342)) rfl ?_
                  obtain ⟨q344, h345, hf⟩ := ab_bnd hf
                  refine ab_U.fn rfl rfl (t_X9_step (X := X) hG h345) (by omega) ?_
                  show ab_U _ _ _ (117, [some (.ref 232), some (.int q1.1)], [], hp X G q344.2) _
                  refine ab_U.run 2 (S' := (121, [some (.ref 232), some (.int q1.1)], [.int (q344.2.1 232 15)], hp X G q344.2)) rfl ?_
                  refine ab_U.if_le rfl (fun b346 => ?_) (fun b346 => ?_)
                  · rw [if_pos b346] at hf
                    refine ab_U.run 2 (S' := (127, [some (.ref 232), some (.int q1.1)], [.int q1.1, .ref 232], hp X G q344.2)) rfl ?_
                    obtain ⟨q347, h348, hf⟩ := ab_bnd hf
                    refine ab_U.fn rfl rfl (t_X9_readMore (X := X) hG h348) (by omega) ?_
                    show ab_U _ _ _ (130, [some (.ref 232), some (.int q1.1)], [], hp X G q347.2) _
                    refine ab_U.run 2 (S' := (134, [some (.ref 232), some (.int q1.1)], [.int (q347.2.1 232 15)], hp X G q347.2)) rfl ?_
                    refine ab_U.if_ne rfl (fun b349 => ?_) (fun b349 => ?_)
                    · rw [if_pos b349] at hf
                      refine ab_U.run 1 (S' := (151, [some (.ref 232), some (.int q1.1)], [.ref 232], hp X G q347.2)) rfl ?_
                      obtain ⟨q350, h351, hf⟩ := ab_bnd hf
                      refine ab_U.fn rfl rfl (t_X9_step (X := X) hG h351) (by omega) ?_
                      show ab_U _ _ _ (154, [some (.ref 232), some (.int q1.1)], [], hp X G q350.2) _
                      obtain rfl := Option.some.inj hf
                      exact ab_U.ret rfl rfl ⟨rfl, rfl⟩
                    · rw [if_neg b349] at hf
                      refine ab_U.run 3 (S' := (142, [some (.ref 232), some (.int q1.1)], [.int 3, .int (q347.2.1 232 19)], hp X G q347.2)) rfl ?_
                      refine ab_U.ic_eq rfl (fun b352 => ?_) (fun b352 => ?_)
                      · rw [if_pos b352] at hf
                        refine ab_U.run 1 (S' := (151, [some (.ref 232), some (.int q1.1)], [.ref 232], hp X G q347.2)) rfl ?_
                        obtain ⟨q353, h354, hf⟩ := ab_bnd hf
                        refine ab_U.fn rfl rfl (t_X9_step (X := X) hG h354) (by omega) ?_
                        show ab_U _ _ _ (154, [some (.ref 232), some (.int q1.1)], [], hp X G q353.2) _
                        obtain rfl := Option.some.inj hf
                        exact ab_U.ret rfl rfl ⟨rfl, rfl⟩
                      · rw [if_neg b352] at hf
                        refine ab_U.run 2 (S' := (147, [some (.ref 232), some (.int q1.1)], [.int 2, .ref 232], hp X G q347.2)) rfl ?_
                        obtain ⟨q355, h356, hf⟩ := ab_bnd hf
                        refine ab_U.fn rfl rfl (t_X9_fails (X := X) hG h356) (by omega) ?_
                        show ab_U _ _ _ (150, [some (.ref 232), some (.int q1.1)], [], hp X G q355.2) _
                        refine ab_U.run 1 (S' := (151, [some (.ref 232), some (.int q1.1)], [.ref 232], hp X G q355.2)) rfl ?_
                        obtain ⟨q357, h358, hf⟩ := ab_bnd hf
                        refine ab_U.fn rfl rfl (t_X9_step (X := X) hG h358) (by omega) ?_
                        show ab_U _ _ _ (154, [some (.ref 232), some (.int q1.1)], [], hp X G q357.2) _
                        obtain rfl := Option.some.inj hf
                        exact ab_U.ret rfl rfl ⟨rfl, rfl⟩
                  · rw [if_neg b346] at hf
                    obtain rfl := Option.some.inj hf
                    exact ab_U.ret rfl rfl ⟨rfl, rfl⟩
            · rw [if_neg b301] at hf
              refine ab_U.run 2 (S' := (67, [some (.ref 232), some (.int q1.1)], [.int 5, .ref 232], hp X G q3.2)) rfl ?_
              obtain ⟨q359, h360, hf⟩ := ab_bnd hf
              refine ab_U.fn rfl rfl (t_X9_fails (X := X) hG h360) (by omega) ?_
              show ab_U _ _ _ (70, [some (.ref 232), some (.int q1.1)], [], hp X G q359.2) _
              refine ab_U.run 4 (S' := (78, [some (.ref 232), some (.int q1.1)], [.long (Int64.ofNat 7), .long (Int64.ofNat 6), .long (q1.1).toInt64], hp X G q359.2)) rfl ?_
              obtain ⟨q361, h362, hf⟩ := ab_bnd hf
              refine ab_U.fn rfl rfl (t_X9_in (X := X) hG h362) (by omega) ?_
              show ab_U _ _ _ (81, [some (.ref 232), some (.int q1.1)], [.int q361.1], hp X G q361.2) _
              refine ab_U.if_eq rfl (fun b363 => ?_) (fun b363 => ?_)
              · rw [if_pos b363] at hf
                refine ab_U.run 7 (S' := (110, [some (.ref 232), some (.int q1.1)], [.int ((q361.2.1 232 9) ||| (1 <<< (q1.1 &&& 31))), .ref 232], hp X G q361.2)) rfl ?_
                obtain ⟨m364, e365, hf⟩ := ab_bnd hf
                have e365 := Option.some.inj e365
                refine ab_U.pfI (ci := 9) (k9 := 9) rfl ⟨by decide, rfl⟩ ⟨rfl, rfl, by decide, rfl⟩ rfl ?_
                show ab_U _ _ _ (113, [some (.ref 232), some (.int q1.1)], [], hp X G (fm_sI q361.2 232 9 ((q361.2.1 232 9) ||| (1 <<< (q1.1 &&& 31))))) _
                rw [e365]
                refine ab_U.run 1 (S' := (114, [some (.ref 232), some (.int q1.1)], [.ref 232], hp X G m364)) rfl ?_
                obtain ⟨q366, h367, hf⟩ := ab_bnd hf
                refine ab_U.fn rfl rfl (t_X9_step (X := X) hG h367) (by omega) ?_
                show ab_U _ _ _ (117, [some (.ref 232), some (.int q1.1)], [], hp X G q366.2) _
                refine ab_U.run 2 (S' := (121, [some (.ref 232), some (.int q1.1)], [.int (q366.2.1 232 15)], hp X G q366.2)) rfl ?_
                refine ab_U.if_le rfl (fun b368 => ?_) (fun b368 => ?_)
                · rw [if_pos b368] at hf
                  refine ab_U.run 2 (S' := (127, [some (.ref 232), some (.int q1.1)], [.int q1.1, .ref 232], hp X G q366.2)) rfl ?_
                  obtain ⟨q369, h370, hf⟩ := ab_bnd hf
                  refine ab_U.fn rfl rfl (t_X9_readMore (X := X) hG h370) (by omega) ?_
                  show ab_U _ _ _ (130, [some (.ref 232), some (.int q1.1)], [], hp X G q369.2) _
                  refine ab_U.run 2 (S' := (134, [some (.ref 232), some (.int q1.1)], [.int (q369.2.1 232 15)], hp X G q369.2)) rfl ?_
                  refine ab_U.if_ne rfl (fun b371 => ?_) (fun b371 => ?_)
                  · rw [if_pos b371] at hf
                    refine ab_U.run 1 (S' := (151, [some (.ref 232), some (.int q1.1)], [.ref 232], hp X G q369.2)) rfl ?_
                    obtain ⟨q372, h373, hf⟩ := ab_bnd hf
                    refine ab_U.fn rfl rfl (t_X9_step (X := X) hG h373) (by omega) ?_
                    show ab_U _ _ _ (154, [some (.ref 232), some (.int q1.1)], [], hp X G q372.2) _
                    obtain rfl := Option.some.inj hf
                    exact ab_U.ret rfl rfl ⟨rfl, rfl⟩
                  · rw [if_neg b371] at hf
                    refine ab_U.run 3 (S' := (142, [some (.ref 232), some (.int q1.1)], [.int 3, .int (q369.2.1 232 19)], hp X G q369.2)) rfl ?_
                    refine ab_U.ic_eq rfl (fun b374 => ?_) (fun b374 => ?_)
                    · rw [if_pos b374] at hf
                      refine ab_U.run 1 (S' := (151, [some (.ref 232), some (.int q1.1)], [.ref 232], hp X G q369.2)) rfl ?_
                      obtain ⟨q375, h376, hf⟩ := ab_bnd hf
                      refine ab_U.fn rfl rfl (t_X9_step (X := X) hG h376) (by omega) ?_
                      show ab_U _ _ _ (154, [some (.ref 232), some (.int q1.1)], [], hp X G q375.2) _
                      obtain rfl := Option.some.inj hf
                      exact ab_U.ret rfl rfl ⟨rfl, rfl⟩
                    · rw [if_neg b374] at hf
                      refine ab_U.run 2 (S' := (147, [some (.ref 232), some (.int q1.1)], [.int 2, .ref 232], hp X G q369.2)) rfl ?_
                      obtain ⟨q377, h378, hf⟩ := ab_bnd hf
                      refine ab_U.fn rfl rfl (t_X9_fails (X := X) hG h378) (by omega) ?_
                      show ab_U _ _ _ (150, [some (.ref 232), some (.int q1.1)], [], hp X G q377.2) _
                      refine ab_U.run 1 (S' := (151, [some (.ref 232), some (.int q1.1)], [.ref 232], hp X G q377.2)) rfl ?_
                      obtain ⟨q379, h380, hf⟩ := ab_bnd hf
                      refine ab_U.fn rfl rfl (t_X9_step (X := X) hG h380) (by omega) ?_
                      show ab_U _ _ _ (154, [some (.ref 232), some (.int q1.1)], [], hp X G q379.2) _
                      obtain rfl := Option.some.inj hf
                      exact ab_U.ret rfl rfl ⟨rfl, rfl⟩
                · rw [if_neg b368] at hf
                  obtain rfl := Option.some.inj hf
                  exact ab_U.ret rfl rfl ⟨rfl, rfl⟩
              · rw [if_neg b363] at hf
                refine ab_U.run 7 (S' := (93, [some (.ref 232), some (.int q1.1)], [.int 1, .int (((q361.2.1 232 9) >>> (q1.1 &&& 31)) &&& 1)], hp X G q361.2)) rfl ?_
                refine ab_U.ic_ne rfl (fun b381 => ?_) (fun b381 => ?_)
                · rw [if_pos b381] at hf
                  refine ab_U.run 7 (S' := (110, [some (.ref 232), some (.int q1.1)], [.int ((q361.2.1 232 9) ||| (1 <<< (q1.1 &&& 31))), .ref 232], hp X G q361.2)) rfl ?_
                  obtain ⟨m382, e383, hf⟩ := ab_bnd hf
                  have e383 := Option.some.inj e383
                  refine ab_U.pfI (ci := 9) (k9 := 9) rfl ⟨by decide, rfl⟩ ⟨rfl, rfl, by decide, rfl⟩ rfl ?_
                  show ab_U _ _ _ (113, [some (.ref 232), some (.int q1.1)], [], hp X G (fm_sI q361.2 232 9 ((q361.2.1 232 9) ||| (1 <<< (q1.1 &&& 31))))) _
                  rw [e383]
                  refine ab_U.run 1 (S' := (114, [some (.ref 232), some (.int q1.1)], [.ref 232], hp X G m382)) rfl ?_
                  obtain ⟨q384, h385, hf⟩ := ab_bnd hf
                  refine ab_U.fn rfl rfl (t_X9_step (X := X) hG h385) (by omega) ?_
                  show ab_U _ _ _ (117, [some (.ref 232), some (.int q1.1)], [], hp X G q384.2) _
                  refine ab_U.run 2 (S' := (121, [some (.ref 232), some (.int q1.1)], [.int (q384.2.1 232 15)], hp X G q384.2)) rfl ?_
                  refine ab_U.if_le rfl (fun b386 => ?_) (fun b386 => ?_)
                  · rw [if_pos b386] at hf
                    refine ab_U.run 2 (S' := (127, [some (.ref 232), some (.int q1.1)], [.int q1.1, .ref 232], hp X G q384.2)) rfl ?_
                    obtain ⟨q387, h388, hf⟩ := ab_bnd hf
                    refine ab_U.fn rfl rfl (t_X9_readMore (X := X) hG h388) (by omega) ?_
                    show ab_U _ _ _ (130, [some (.ref 232), some (.int q1.1)], [], hp X G q387.2) _
                    refine ab_U.run 2 (S' := (134, [some (.ref 232), some (.int q1.1)], [.int (q387.2.1 232 15)], hp X G q387.2)) rfl ?_
                    refine ab_U.if_ne rfl (fun b389 => ?_) (fun b389 => ?_)
                    · rw [if_pos b389] at hf
                      refine ab_U.run 1 (S' := (151, [some (.ref 232), some (.int q1.1)], [.ref 232], hp X G q387.2)) rfl ?_
                      obtain ⟨q390, h391, hf⟩ := ab_bnd hf
                      refine ab_U.fn rfl rfl (t_X9_step (X := X) hG h391) (by omega) ?_
                      show ab_U _ _ _ (154, [some (.ref 232), some (.int q1.1)], [], hp X G q390.2) _
                      obtain rfl := Option.some.inj hf
                      exact ab_U.ret rfl rfl ⟨rfl, rfl⟩
                    · rw [if_neg b389] at hf
                      refine ab_U.run 3 (S' := (142, [some (.ref 232), some (.int q1.1)], [.int 3, .int (q387.2.1 232 19)], hp X G q387.2)) rfl ?_
                      refine ab_U.ic_eq rfl (fun b392 => ?_) (fun b392 => ?_)
                      · rw [if_pos b392] at hf
                        refine ab_U.run 1 (S' := (151, [some (.ref 232), some (.int q1.1)], [.ref 232], hp X G q387.2)) rfl ?_
                        obtain ⟨q393, h394, hf⟩ := ab_bnd hf
                        refine ab_U.fn rfl rfl (t_X9_step (X := X) hG h394) (by omega) ?_
                        show ab_U _ _ _ (154, [some (.ref 232), some (.int q1.1)], [], hp X G q393.2) _
                        obtain rfl := Option.some.inj hf
                        exact ab_U.ret rfl rfl ⟨rfl, rfl⟩
                      · rw [if_neg b392] at hf
                        refine ab_U.run 2 (S' := (147, [some (.ref 232), some (.int q1.1)], [.int 2, .ref 232], hp X G q387.2)) rfl ?_
                        obtain ⟨q395, h396, hf⟩ := ab_bnd hf
                        refine ab_U.fn rfl rfl (t_X9_fails (X := X) hG h396) (by omega) ?_
                        show ab_U _ _ _ (150, [some (.ref 232), some (.int q1.1)], [], hp X G q395.2) _
                        refine ab_U.run 1 (S' := (151, [some (.ref 232), some (.int q1.1)], [.ref 232], hp X G q395.2)) rfl ?_
                        obtain ⟨q397, h398, hf⟩ := ab_bnd hf
                        refine ab_U.fn rfl rfl (t_X9_step (X := X) hG h398) (by omega) ?_
                        show ab_U _ _ _ (154, [some (.ref 232), some (.int q1.1)], [], hp X G q397.2) _
                        obtain rfl := Option.some.inj hf
                        exact ab_U.ret rfl rfl ⟨rfl, rfl⟩
                  · rw [if_neg b386] at hf
                    obtain rfl := Option.some.inj hf
                    exact ab_U.ret rfl rfl ⟨rfl, rfl⟩
                · rw [if_neg b381] at hf
                  refine ab_U.run 2 (S' := (98, [some (.ref 232), some (.int q1.1)], [.int 4, .ref 232], hp X G q361.2)) rfl ?_
                  obtain ⟨q399, h400, hf⟩ := ab_bnd hf
                  refine ab_U.fn rfl rfl (t_X9_fails (X := X) hG h400) (by omega) ?_
                  show ab_U _ _ _ (101, [some (.ref 232), some (.int q1.1)], [], hp X G q399.2) _
                  refine ab_U.run 7 (S' := (110, [some (.ref 232), some (.int q1.1)], [.int ((q399.2.1 232 9) ||| (1 <<< (q1.1 &&& 31))), .ref 232], hp X G q399.2)) rfl ?_
                  obtain ⟨m401, e402, hf⟩ := ab_bnd hf
                  have e402 := Option.some.inj e402
                  refine ab_U.pfI (ci := 9) (k9 := 9) rfl ⟨by decide, rfl⟩ ⟨rfl, rfl, by decide, rfl⟩ rfl ?_
                  show ab_U _ _ _ (113, [some (.ref 232), some (.int q1.1)], [], hp X G (fm_sI q399.2 232 9 ((q399.2.1 232 9) ||| (1 <<< (q1.1 &&& 31))))) _
                  rw [e402]
                  refine ab_U.run 1 (S' := (114, [some (.ref 232), some (.int q1.1)], [.ref 232], hp X G m401)) rfl ?_
                  obtain ⟨q403, h404, hf⟩ := ab_bnd hf
                  refine ab_U.fn rfl rfl (t_X9_step (X := X) hG h404) (by omega) ?_
                  show ab_U _ _ _ (117, [some (.ref 232), some (.int q1.1)], [], hp X G q403.2) _
                  refine ab_U.run 2 (S' := (121, [some (.ref 232), some (.int q1.1)], [.int (q403.2.1 232 15)], hp X G q403.2)) rfl ?_
                  refine ab_U.if_le rfl (fun b405 => ?_) (fun b405 => ?_)
                  · rw [if_pos b405] at hf
                    refine ab_U.run 2 (S' := (127, [some (.ref 232), some (.int q1.1)], [.int q1.1, .ref 232], hp X G q403.2)) rfl ?_
                    obtain ⟨q406, h407, hf⟩ := ab_bnd hf
                    refine ab_U.fn rfl rfl (t_X9_readMore (X := X) hG h407) (by omega) ?_
                    show ab_U _ _ _ (130, [some (.ref 232), some (.int q1.1)], [], hp X G q406.2) _
                    refine ab_U.run 2 (S' := (134, [some (.ref 232), some (.int q1.1)], [.int (q406.2.1 232 15)], hp X G q406.2)) rfl ?_
                    refine ab_U.if_ne rfl (fun b408 => ?_) (fun b408 => ?_)
                    · rw [if_pos b408] at hf
                      refine ab_U.run 1 (S' := (151, [some (.ref 232), some (.int q1.1)], [.ref 232], hp X G q406.2)) rfl ?_
                      obtain ⟨q409, h410, hf⟩ := ab_bnd hf
                      refine ab_U.fn rfl rfl (t_X9_step (X := X) hG h410) (by omega) ?_
                      show ab_U _ _ _ (154, [some (.ref 232), some (.int q1.1)], [], hp X G q409.2) _
                      obtain rfl := Option.some.inj hf
                      exact ab_U.ret rfl rfl ⟨rfl, rfl⟩
                    · rw [if_neg b408] at hf
                      refine ab_U.run 3 (S' := (142, [some (.ref 232), some (.int q1.1)], [.int 3, .int (q406.2.1 232 19)], hp X G q406.2)) rfl ?_
                      refine ab_U.ic_eq rfl (fun b411 => ?_) (fun b411 => ?_)
                      · rw [if_pos b411] at hf
                        refine ab_U.run 1 (S' := (151, [some (.ref 232), some (.int q1.1)], [.ref 232], hp X G q406.2)) rfl ?_
                        obtain ⟨q412, h413, hf⟩ := ab_bnd hf
                        refine ab_U.fn rfl rfl (t_X9_step (X := X) hG h413) (by omega) ?_
                        show ab_U _ _ _ (154, [some (.ref 232), some (.int q1.1)], [], hp X G q412.2) _
                        obtain rfl := Option.some.inj hf
                        exact ab_U.ret rfl rfl ⟨rfl, rfl⟩
                      · rw [if_neg b411] at hf
                        refine ab_U.run 2 (S' := (147, [some (.ref 232), some (.int q1.1)], [.int 2, .ref 232], hp X G q406.2)) rfl ?_
                        obtain ⟨q414, h415, hf⟩ := ab_bnd hf
                        refine ab_U.fn rfl rfl (t_X9_fails (X := X) hG h415) (by omega) ?_
                        show ab_U _ _ _ (150, [some (.ref 232), some (.int q1.1)], [], hp X G q414.2) _
                        refine ab_U.run 1 (S' := (151, [some (.ref 232), some (.int q1.1)], [.ref 232], hp X G q414.2)) rfl ?_
                        obtain ⟨q416, h417, hf⟩ := ab_bnd hf
                        refine ab_U.fn rfl rfl (t_X9_step (X := X) hG h417) (by omega) ?_
                        show ab_U _ _ _ (154, [some (.ref 232), some (.int q1.1)], [], hp X G q416.2) _
                        obtain rfl := Option.some.inj hf
                        exact ab_U.ret rfl rfl ⟨rfl, rfl⟩
                  · rw [if_neg b405] at hf
                    obtain rfl := Option.some.inj hf
                    exact ab_U.ret rfl rfl ⟨rfl, rfl⟩
    · rw [if_neg b6] at hf
      refine ab_U.run 3 (S' := (34, [some (.ref 232), some (.int q1.1)], [.int 23, .ref 236], hp X G q3.2)) rfl ?_
      obtain ⟨c418, hf⟩ := ab_ifs hf
      refine ab_U.iald (n := 38) rfl ⟨by decide, rfl⟩ c418 ?_
      show ab_U _ _ _ (35, [some (.ref 232), some (.int q1.1)], [.int (q3.2.2.1 236 (23 : Int32).toNatClampNeg)], hp X G q3.2) _
      refine ab_U.run 1 (S' := (36, [some (.ref 232), some (.int q1.1)], [.int 5, .int (q3.2.2.1 236 (23 : Int32).toNatClampNeg)], hp X G q3.2)) rfl ?_
      refine ab_U.ic_eq rfl (fun b419 => ?_) (fun b419 => ?_)
      · rw [if_pos b419] at hf
        refine ab_U.run 2 (S' := (67, [some (.ref 232), some (.int q1.1)], [.int 5, .ref 232], hp X G q3.2)) rfl ?_
        obtain ⟨q420, h421, hf⟩ := ab_bnd hf
        refine ab_U.fn rfl rfl (t_X9_fails (X := X) hG h421) (by omega) ?_
        show ab_U _ _ _ (70, [some (.ref 232), some (.int q1.1)], [], hp X G q420.2) _
        refine ab_U.run 4 (S' := (78, [some (.ref 232), some (.int q1.1)], [.long (Int64.ofNat 7), .long (Int64.ofNat 6), .long (q1.1).toInt64], hp X G q420.2)) rfl ?_
        obtain ⟨q422, h423, hf⟩ := ab_bnd hf
        refine ab_U.fn rfl rfl (t_X9_in (X := X) hG h423) (by omega) ?_
        show ab_U _ _ _ (81, [some (.ref 232), some (.int q1.1)], [.int q422.1], hp X G q422.2) _
        refine ab_U.if_eq rfl (fun b424 => ?_) (fun b424 => ?_)
        · rw [if_pos b424] at hf
          refine ab_U.run 7 (S' := (110, [some (.ref 232), some (.int q1.1)], [.int ((q422.2.1 232 9) ||| (1 <<< (q1.1 &&& 31))), .ref 232], hp X G q422.2)) rfl ?_
          obtain ⟨m425, e426, hf⟩ := ab_bnd hf
          have e426 := Option.some.inj e426
          refine ab_U.pfI (ci := 9) (k9 := 9) rfl ⟨by decide, rfl⟩ ⟨rfl, rfl, by decide, rfl⟩ rfl ?_
          show ab_U _ _ _ (113, [some (.ref 232), some (.int q1.1)], [], hp X G (fm_sI q422.2 232 9 ((q422.2.1 232 9) ||| (1 <<< (q1.1 &&& 31))))) _
          rw [e426]
          refine ab_U.run 1 (S' := (114, [some (.ref 232), some (.int q1.1)], [.ref 232], hp X G m425)) rfl ?_
          obtain ⟨q427, h428, hf⟩ := ab_bnd hf
          refine ab_U.fn rfl rfl (t_X9_step (X := X) hG h428) (by omega) ?_
          show ab_U _ _ _ (117, [some (.ref 232), some (.int q1.1)], [], hp X G q427.2) _
          refine ab_U.run 2 (S' := (121, [some (.ref 232), some (.int q1.1)], [.int (q427.2.1 232 15)], hp X G q427.2)) rfl ?_
          refine ab_U.if_le rfl (fun b429 => ?_) (fun b429 => ?_)
          · rw [if_pos b429] at hf
            refine ab_U.run 2 (S' := (127, [some (.ref 232), some (.int q1.1)], [.int q1.1, .ref 232], hp X G q427.2)) rfl ?_
            obtain ⟨q430, h431, hf⟩ := ab_bnd hf
            refine ab_U.fn rfl rfl (t_X9_readMore (X := X) hG h431) (by omega) ?_
            show ab_U _ _ _ (130, [some (.ref 232), some (.int q1.1)], [], hp X G q430.2) _
            refine ab_U.run 2 (S' := (134, [some (.ref 232), some (.int q1.1)], [.int (q430.2.1 232 15)], hp X G q430.2)) rfl ?_
            refine ab_U.if_ne rfl (fun b432 => ?_) (fun b432 => ?_)
            · rw [if_pos b432] at hf
              refine ab_U.run 1 (S' := (151, [some (.ref 232), some (.int q1.1)], [.ref 232], hp X G q430.2)) rfl ?_
              obtain ⟨q433, h434, hf⟩ := ab_bnd hf
              refine ab_U.fn rfl rfl (t_X9_step (X := X) hG h434) (by omega) ?_
              show ab_U _ _ _ (154, [some (.ref 232), some (.int q1.1)], [], hp X G q433.2) _
              obtain rfl := Option.some.inj hf
              exact ab_U.ret rfl rfl ⟨rfl, rfl⟩
            · rw [if_neg b432] at hf
              refine ab_U.run 3 (S' := (142, [some (.ref 232), some (.int q1.1)], [.int 3, .int (q430.2.1 232 19)], hp X G q430.2)) rfl ?_
              refine ab_U.ic_eq rfl (fun b435 => ?_) (fun b435 => ?_)
              · rw [if_pos b435] at hf
                refine ab_U.run 1 (S' := (151, [some (.ref 232), some (.int q1.1)], [.ref 232], hp X G q430.2)) rfl ?_
                obtain ⟨q436, h437, hf⟩ := ab_bnd hf
                refine ab_U.fn rfl rfl (t_X9_step (X := X) hG h437) (by omega) ?_
                show ab_U _ _ _ (154, [some (.ref 232), some (.int q1.1)], [], hp X G q436.2) _
                obtain rfl := Option.some.inj hf
                exact ab_U.ret rfl rfl ⟨rfl, rfl⟩
              · rw [if_neg b435] at hf
                refine ab_U.run 2 (S' := (147, [some (.ref 232), some (.int q1.1)], [.int 2, .ref 232], hp X G q430.2)) rfl ?_
                obtain ⟨q438, h439, hf⟩ := ab_bnd hf
                refine ab_U.fn rfl rfl (t_X9_fails (X := X) hG h439) (by omega) ?_
                show ab_U _ _ _ (150, [some (.ref 232), some (.int q1.1)], [], hp X G q438.2) _
                refine ab_U.run 1 (S' := (151, [some (.ref 232), some (.int q1.1)], [.ref 232], hp X G q438.2)) rfl ?_
                obtain ⟨q440, h441, hf⟩ := ab_bnd hf
                refine ab_U.fn rfl rfl (t_X9_step (X := X) hG h441) (by omega) ?_
                show ab_U _ _ _ (154, [some (.ref 232), some (.int q1.1)], [], hp X G q440.2) _
                obtain rfl := Option.some.inj hf
                exact ab_U.ret rfl rfl ⟨rfl, rfl⟩
          · rw [if_neg b429] at hf
            obtain rfl := Option.some.inj hf
            exact ab_U.ret rfl rfl ⟨rfl, rfl⟩
        · rw [if_neg b424] at hf
          refine ab_U.run 7 (S' := (93, [some (.ref 232), some (.int q1.1)], [.int 1, .int (((q422.2.1 232 9) >>> (q1.1 &&& 31)) &&& 1)], hp X G q422.2)) rfl ?_
          refine ab_U.ic_ne rfl (fun b442 => ?_) (fun b442 => ?_)
          · rw [if_pos b442] at hf
            refine ab_U.run 7 (S' := (110, [some (.ref 232), some (.int q1.1)], [.int ((q422.2.1 232 9) ||| (1 <<< (q1.1 &&& 31))), .ref 232], hp X G q422.2)) rfl ?_
            obtain ⟨m443, e444, hf⟩ := ab_bnd hf
            have e444 := Option.some.inj e444
            refine ab_U.pfI (ci := 9) (k9 := 9) rfl ⟨by decide, rfl⟩ ⟨rfl, rfl, by decide, rfl⟩ rfl ?_
            show ab_U _ _ _ (113, [some (.ref 232), some (.int q1.1)], [], hp X G (fm_sI q422.2 232 9 ((q422.2.1 232 9) ||| (1 <<< (q1.1 &&& 31))))) _
            rw [e444]
            refine ab_U.run 1 (S' := (114, [some (.ref 232), some (.int q1.1)], [.ref 232], hp X G m443)) rfl ?_
            obtain ⟨q445, h446, hf⟩ := ab_bnd hf
            refine ab_U.fn rfl rfl (t_X9_step (X := X) hG h446) (by omega) ?_
            show ab_U _ _ _ (117, [some (.ref 232), some (.int q1.1)], [], hp X G q445.2) _
            refine ab_U.run 2 (S' := (121, [some (.ref 232), some (.int q1.1)], [.int (q445.2.1 232 15)], hp X G q445.2)) rfl ?_
            refine ab_U.if_le rfl (fun b447 => ?_) (fun b447 => ?_)
            · rw [if_pos b447] at hf
              refine ab_U.run 2 (S' := (127, [some (.ref 232), some (.int q1.1)], [.int q1.1, .ref 232], hp X G q445.2)) rfl ?_
              obtain ⟨q448, h449, hf⟩ := ab_bnd hf
              refine ab_U.fn rfl rfl (t_X9_readMore (X := X) hG h449) (by omega) ?_
              show ab_U _ _ _ (130, [some (.ref 232), some (.int q1.1)], [], hp X G q448.2) _
              refine ab_U.run 2 (S' := (134, [some (.ref 232), some (.int q1.1)], [.int (q448.2.1 232 15)], hp X G q448.2)) rfl ?_
              refine ab_U.if_ne rfl (fun b450 => ?_) (fun b450 => ?_)
              · rw [if_pos b450] at hf
                refine ab_U.run 1 (S' := (151, [some (.ref 232), some (.int q1.1)], [.ref 232], hp X G q448.2)) rfl ?_
                obtain ⟨q451, h452, hf⟩ := ab_bnd hf
                refine ab_U.fn rfl rfl (t_X9_step (X := X) hG h452) (by omega) ?_
                show ab_U _ _ _ (154, [some (.ref 232), some (.int q1.1)], [], hp X G q451.2) _
                obtain rfl := Option.some.inj hf
                exact ab_U.ret rfl rfl ⟨rfl, rfl⟩
              · rw [if_neg b450] at hf
                refine ab_U.run 3 (S' := (142, [some (.ref 232), some (.int q1.1)], [.int 3, .int (q448.2.1 232 19)], hp X G q448.2)) rfl ?_
                refine ab_U.ic_eq rfl (fun b453 => ?_) (fun b453 => ?_)
                · rw [if_pos b453] at hf
                  refine ab_U.run 1 (S' := (151, [some (.ref 232), some (.int q1.1)], [.ref 232], hp X G q448.2)) rfl ?_
                  obtain ⟨q454, h455, hf⟩ := ab_bnd hf
                  refine ab_U.fn rfl rfl (t_X9_step (X := X) hG h455) (by omega) ?_
                  show ab_U _ _ _ (154, [some (.ref 232), some (.int q1.1)], [], hp X G q454.2) _
                  obtain rfl := Option.some.inj hf
                  exact ab_U.ret rfl rfl ⟨rfl, rfl⟩
                · rw [if_neg b453] at hf
                  refine ab_U.run 2 (S' := (147, [some (.ref 232), some (.int q1.1)], [.int 2, .ref 232], hp X G q448.2)) rfl ?_
                  obtain ⟨q456, h457, hf⟩ := ab_bnd hf
                  refine ab_U.fn rfl rfl (t_X9_fails (X := X) hG h457) (by omega) ?_
                  show ab_U _ _ _ (150, [some (.ref 232), some (.int q1.1)], [], hp X G q456.2) _
                  refine ab_U.run 1 (S' := (151, [some (.ref 232), some (.int q1.1)], [.ref 232], hp X G q456.2)) rfl ?_
                  obtain ⟨q458, h459, hf⟩ := ab_bnd hf
                  refine ab_U.fn rfl rfl (t_X9_step (X := X) hG h459) (by omega) ?_
                  show ab_U _ _ _ (154, [some (.ref 232), some (.int q1.1)], [], hp X G q458.2) _
                  obtain rfl := Option.some.inj hf
                  exact ab_U.ret rfl rfl ⟨rfl, rfl⟩
            · rw [if_neg b447] at hf
              obtain rfl := Option.some.inj hf
              exact ab_U.ret rfl rfl ⟨rfl, rfl⟩
          · rw [if_neg b442] at hf
            refine ab_U.run 2 (S' := (98, [some (.ref 232), some (.int q1.1)], [.int 4, .ref 232], hp X G q422.2)) rfl ?_
            obtain ⟨q460, h461, hf⟩ := ab_bnd hf
            refine ab_U.fn rfl rfl (t_X9_fails (X := X) hG h461) (by omega) ?_
            show ab_U _ _ _ (101, [some (.ref 232), some (.int q1.1)], [], hp X G q460.2) _
            refine ab_U.run 7 (S' := (110, [some (.ref 232), some (.int q1.1)], [.int ((q460.2.1 232 9) ||| (1 <<< (q1.1 &&& 31))), .ref 232], hp X G q460.2)) rfl ?_
            obtain ⟨m462, e463, hf⟩ := ab_bnd hf
            have e463 := Option.some.inj e463
            refine ab_U.pfI (ci := 9) (k9 := 9) rfl ⟨by decide, rfl⟩ ⟨rfl, rfl, by decide, rfl⟩ rfl ?_
            show ab_U _ _ _ (113, [some (.ref 232), some (.int q1.1)], [], hp X G (fm_sI q460.2 232 9 ((q460.2.1 232 9) ||| (1 <<< (q1.1 &&& 31))))) _
            rw [e463]
            refine ab_U.run 1 (S' := (114, [some (.ref 232), some (.int q1.1)], [.ref 232], hp X G m462)) rfl ?_
            obtain ⟨q464, h465, hf⟩ := ab_bnd hf
            refine ab_U.fn rfl rfl (t_X9_step (X := X) hG h465) (by omega) ?_
            show ab_U _ _ _ (117, [some (.ref 232), some (.int q1.1)], [], hp X G q464.2) _
            refine ab_U.run 2 (S' := (121, [some (.ref 232), some (.int q1.1)], [.int (q464.2.1 232 15)], hp X G q464.2)) rfl ?_
            refine ab_U.if_le rfl (fun b466 => ?_) (fun b466 => ?_)
            · rw [if_pos b466] at hf
              refine ab_U.run 2 (S' := (127, [some (.ref 232), some (.int q1.1)], [.int q1.1, .ref 232], hp X G q464.2)) rfl ?_
              obtain ⟨q467, h468, hf⟩ := ab_bnd hf
              refine ab_U.fn rfl rfl (t_X9_readMore (X := X) hG h468) (by omega) ?_
              show ab_U _ _ _ (130, [some (.ref 232), some (.int q1.1)], [], hp X G q467.2) _
              refine ab_U.run 2 (S' := (134, [some (.ref 232), some (.int q1.1)], [.int (q467.2.1 232 15)], hp X G q467.2)) rfl ?_
              refine ab_U.if_ne rfl (fun b469 => ?_) (fun b469 => ?_)
              · rw [if_pos b469] at hf
                refine ab_U.run 1 (S' := (151, [some (.ref 232), some (.int q1.1)], [.ref 232], hp X G q467.2)) rfl ?_
                obtain ⟨q470, h471, hf⟩ := ab_bnd hf
                refine ab_U.fn rfl rfl (t_X9_step (X := X) hG h471) (by omega) ?_
                show ab_U _ _ _ (154, [some (.ref 232), some (.int q1.1)], [], hp X G q470.2) _
                obtain rfl := Option.some.inj hf
                exact ab_U.ret rfl rfl ⟨rfl, rfl⟩
              · rw [if_neg b469] at hf
                refine ab_U.run 3 (S' := (142, [some (.ref 232), some (.int q1.1)], [.int 3, .int (q467.2.1 232 19)], hp X G q467.2)) rfl ?_
                refine ab_U.ic_eq rfl (fun b472 => ?_) (fun b472 => ?_)
                · rw [if_pos b472] at hf
                  refine ab_U.run 1 (S' := (151, [some (.ref 232), some (.int q1.1)], [.ref 232], hp X G q467.2)) rfl ?_
                  obtain ⟨q473, h474, hf⟩ := ab_bnd hf
                  refine ab_U.fn rfl rfl (t_X9_step (X := X) hG h474) (by omega) ?_
                  show ab_U _ _ _ (154, [some (.ref 232), some (.int q1.1)], [], hp X G q473.2) _
                  obtain rfl := Option.some.inj hf
                  exact ab_U.ret rfl rfl ⟨rfl, rfl⟩
                · rw [if_neg b472] at hf
                  refine ab_U.run 2 (S' := (147, [some (.ref 232), some (.int q1.1)], [.int 2, .ref 232], hp X G q467.2)) rfl ?_
                  obtain ⟨q475, h476, hf⟩ := ab_bnd hf
                  refine ab_U.fn rfl rfl (t_X9_fails (X := X) hG h476) (by omega) ?_
                  show ab_U _ _ _ (150, [some (.ref 232), some (.int q1.1)], [], hp X G q475.2) _
                  refine ab_U.run 1 (S' := (151, [some (.ref 232), some (.int q1.1)], [.ref 232], hp X G q475.2)) rfl ?_
                  obtain ⟨q477, h478, hf⟩ := ab_bnd hf
                  refine ab_U.fn rfl rfl (t_X9_step (X := X) hG h478) (by omega) ?_
                  show ab_U _ _ _ (154, [some (.ref 232), some (.int q1.1)], [], hp X G q477.2) _
                  obtain rfl := Option.some.inj hf
                  exact ab_U.ret rfl rfl ⟨rfl, rfl⟩
            · rw [if_neg b466] at hf
              obtain rfl := Option.some.inj hf
              exact ab_U.ret rfl rfl ⟨rfl, rfl⟩
      · rw [if_neg b419] at hf
        refine ab_U.run 2 (S' := (41, [some (.ref 232), some (.int q1.1)], [.int 4, .int q1.1], hp X G q3.2)) rfl ?_
        refine ab_U.ic_ne rfl (fun b479 => ?_) (fun b479 => ?_)
        · rw [if_pos b479] at hf
          refine ab_U.run 2 (S' := (54, [some (.ref 232), some (.int q1.1)], [.int 5, .int q1.1], hp X G q3.2)) rfl ?_
          refine ab_U.ic_ne rfl (fun b480 => ?_) (fun b480 => ?_)
          · rw [if_pos b480] at hf
            refine ab_U.run 4 (S' := (78, [some (.ref 232), some (.int q1.1)], [.long (Int64.ofNat 7), .long (Int64.ofNat 6), .long (q1.1).toInt64], hp X G q3.2)) rfl ?_
            obtain ⟨q481, h482, hf⟩ := ab_bnd hf
            refine ab_U.fn rfl rfl (t_X9_in (X := X) hG h482) (by omega) ?_
            show ab_U _ _ _ (81, [some (.ref 232), some (.int q1.1)], [.int q481.1], hp X G q481.2) _
            refine ab_U.if_eq rfl (fun b483 => ?_) (fun b483 => ?_)
            · rw [if_pos b483] at hf
              refine ab_U.run 7 (S' := (110, [some (.ref 232), some (.int q1.1)], [.int ((q481.2.1 232 9) ||| (1 <<< (q1.1 &&& 31))), .ref 232], hp X G q481.2)) rfl ?_
              obtain ⟨m484, e485, hf⟩ := ab_bnd hf
              have e485 := Option.some.inj e485
              refine ab_U.pfI (ci := 9) (k9 := 9) rfl ⟨by decide, rfl⟩ ⟨rfl, rfl, by decide, rfl⟩ rfl ?_
              show ab_U _ _ _ (113, [some (.ref 232), some (.int q1.1)], [], hp X G (fm_sI q481.2 232 9 ((q481.2.1 232 9) ||| (1 <<< (q1.1 &&& 31))))) _
              rw [e485]
              refine ab_U.run 1 (S' := (114, [some (.ref 232), some (.int q1.1)], [.ref 232], hp X G m484)) rfl ?_
              obtain ⟨q486, h487, hf⟩ := ab_bnd hf
              refine ab_U.fn rfl rfl (t_X9_step (X := X) hG h487) (by omega) ?_
              show ab_U _ _ _ (117, [some (.ref 232), some (.int q1.1)], [], hp X G q486.2) _
              refine ab_U.run 2 (S' := (121, [some (.ref 232), some (.int q1.1)], [.int (q486.2.1 232 15)], hp X G q486.2)) rfl ?_
              refine ab_U.if_le rfl (fun b488 => ?_) (fun b488 => ?_)
              · rw [if_pos b488] at hf
                refine ab_U.run 2 (S' := (127, [some (.ref 232), some (.int q1.1)], [.int q1.1, .ref 232], hp X G q486.2)) rfl ?_
                obtain ⟨q489, h490, hf⟩ := ab_bnd hf
                refine ab_U.fn rfl rfl (t_X9_readMore (X := X) hG h490) (by omega) ?_
                show ab_U _ _ _ (130, [some (.ref 232), some (.int q1.1)], [], hp X G q489.2) _
                refine ab_U.run 2 (S' := (134, [some (.ref 232), some (.int q1.1)], [.int (q489.2.1 232 15)], hp X G q489.2)) rfl ?_
                refine ab_U.if_ne rfl (fun b491 => ?_) (fun b491 => ?_)
                · rw [if_pos b491] at hf
                  refine ab_U.run 1 (S' := (151, [some (.ref 232), some (.int q1.1)], [.ref 232], hp X G q489.2)) rfl ?_
                  obtain ⟨q492, h493, hf⟩ := ab_bnd hf
                  refine ab_U.fn rfl rfl (t_X9_step (X := X) hG h493) (by omega) ?_
                  show ab_U _ _ _ (154, [some (.ref 232), some (.int q1.1)], [], hp X G q492.2) _
                  obtain rfl := Option.some.inj hf
                  exact ab_U.ret rfl rfl ⟨rfl, rfl⟩
                · rw [if_neg b491] at hf
                  refine ab_U.run 3 (S' := (142, [some (.ref 232), some (.int q1.1)], [.int 3, .int (q489.2.1 232 19)], hp X G q489.2)) rfl ?_
                  refine ab_U.ic_eq rfl (fun b494 => ?_) (fun b494 => ?_)
                  · rw [if_pos b494] at hf
                    refine ab_U.run 1 (S' := (151, [some (.ref 232), some (.int q1.1)], [.ref 232], hp X G q489.2)) rfl ?_
                    obtain ⟨q495, h496, hf⟩ := ab_bnd hf
                    refine ab_U.fn rfl rfl (t_X9_step (X := X) hG h496) (by omega) ?_
                    show ab_U _ _ _ (154, [some (.ref 232), some (.int q1.1)], [], hp X G q495.2) _
                    obtain rfl := Option.some.inj hf
                    exact ab_U.ret rfl rfl ⟨rfl, rfl⟩
                  · rw [if_neg b494] at hf
                    refine ab_U.run 2 (S' := (147, [some (.ref 232), some (.int q1.1)], [.int 2, .ref 232], hp X G q489.2)) rfl ?_
                    obtain ⟨q497, h498, hf⟩ := ab_bnd hf
                    refine ab_U.fn rfl rfl (t_X9_fails (X := X) hG h498) (by omega) ?_
                    show ab_U _ _ _ (150, [some (.ref 232), some (.int q1.1)], [], hp X G q497.2) _
                    refine ab_U.run 1 (S' := (151, [some (.ref 232), some (.int q1.1)], [.ref 232], hp X G q497.2)) rfl ?_
                    obtain ⟨q499, h500, hf⟩ := ab_bnd hf
                    refine ab_U.fn rfl rfl (t_X9_step (X := X) hG h500) (by omega) ?_
                    show ab_U _ _ _ (154, [some (.ref 232), some (.int q1.1)], [], hp X G q499.2) _
                    obtain rfl := Option.some.inj hf
                    exact ab_U.ret rfl rfl ⟨rfl, rfl⟩
              · rw [if_neg b488] at hf
                obtain rfl := Option.some.inj hf
                exact ab_U.ret rfl rfl ⟨rfl, rfl⟩
            · rw [if_neg b483] at hf
              refine ab_U.run 7 (S' := (93, [some (.ref 232), some (.int q1.1)], [.int 1, .int (((q481.2.1 232 9) >>> (q1.1 &&& 31)) &&& 1)], hp X G q481.2)) rfl ?_
              refine ab_U.ic_ne rfl (fun b501 => ?_) (fun b501 => ?_)
              · rw [if_pos b501] at hf
                refine ab_U.run 7 (S' := (110, [some (.ref 232), some (.int q1.1)], [.int ((q481.2.1 232 9) ||| (1 <<< (q1.1 &&& 31))), .ref 232], hp X G q481.2)) rfl ?_
                obtain ⟨m502, e503, hf⟩ := ab_bnd hf
                have e503 := Option.some.inj e503
                refine ab_U.pfI (ci := 9) (k9 := 9) rfl ⟨by decide, rfl⟩ ⟨rfl, rfl, by decide, rfl⟩ rfl ?_
                show ab_U _ _ _ (113, [some (.ref 232), some (.int q1.1)], [], hp X G (fm_sI q481.2 232 9 ((q481.2.1 232 9) ||| (1 <<< (q1.1 &&& 31))))) _
                rw [e503]
                refine ab_U.run 1 (S' := (114, [some (.ref 232), some (.int q1.1)], [.ref 232], hp X G m502)) rfl ?_
                obtain ⟨q504, h505, hf⟩ := ab_bnd hf
                refine ab_U.fn rfl rfl (t_X9_step (X := X) hG h505) (by omega) ?_
                show ab_U _ _ _ (117, [some (.ref 232), some (.int q1.1)], [], hp X G q504.2) _
                refine ab_U.run 2 (S' := (121, [some (.ref 232), some (.int q1.1)], [.int (q504.2.1 232 15)], hp X G q504.2)) rfl ?_
                refine ab_U.if_le rfl (fun b506 => ?_) (fun b506 => ?_)
                · rw [if_pos b506] at hf
                  refine ab_U.run 2 (S' := (127, [some (.ref 232), some (.int q1.1)], [.int q1.1, .ref 232], hp X G q504.2)) rfl ?_
                  obtain ⟨q507, h508, hf⟩ := ab_bnd hf
                  refine ab_U.fn rfl rfl (t_X9_readMore (X := X) hG h508) (by omega) ?_
                  show ab_U _ _ _ (130, [some (.ref 232), some (.int q1.1)], [], hp X G q507.2) _
                  refine ab_U.run 2 (S' := (134, [some (.ref 232), some (.int q1.1)], [.int (q507.2.1 232 15)], hp X G q507.2)) rfl ?_
                  refine ab_U.if_ne rfl (fun b509 => ?_) (fun b509 => ?_)
                  · rw [if_pos b509] at hf
                    refine ab_U.run 1 (S' := (151, [some (.ref 232), some (.int q1.1)], [.ref 232], hp X G q507.2)) rfl ?_
                    obtain ⟨q510, h511, hf⟩ := ab_bnd hf
                    refine ab_U.fn rfl rfl (t_X9_step (X := X) hG h511) (by omega) ?_
                    show ab_U _ _ _ (154, [some (.ref 232), some (.int q1.1)], [], hp X G q510.2) _
                    obtain rfl := Option.some.inj hf
                    exact ab_U.ret rfl rfl ⟨rfl, rfl⟩
                  · rw [if_neg b509] at hf
                    refine ab_U.run 3 (S' := (142, [some (.ref 232), some (.int q1.1)], [.int 3, .int (q507.2.1 232 19)], hp X G q507.2)) rfl ?_
                    refine ab_U.ic_eq rfl (fun b512 => ?_) (fun b512 => ?_)
                    · rw [if_pos b512] at hf
                      refine ab_U.run 1 (S' := (151, [some (.ref 232), some (.int q1.1)], [.ref 232], hp X G q507.2)) rfl ?_
                      obtain ⟨q513, h514, hf⟩ := ab_bnd hf
                      refine ab_U.fn rfl rfl (t_X9_step (X := X) hG h514) (by omega) ?_
                      show ab_U _ _ _ (154, [some (.ref 232), some (.int q1.1)], [], hp X G q513.2) _
                      obtain rfl := Option.some.inj hf
                      exact ab_U.ret rfl rfl ⟨rfl, rfl⟩
                    · rw [if_neg b512] at hf
                      refine ab_U.run 2 (S' := (147, [some (.ref 232), some (.int q1.1)], [.int 2, .ref 232], hp X G q507.2)) rfl ?_
                      obtain ⟨q515, h516, hf⟩ := ab_bnd hf
                      refine ab_U.fn rfl rfl (t_X9_fails (X := X) hG h516) (by omega) ?_
                      show ab_U _ _ _ (150, [some (.ref 232), some (.int q1.1)], [], hp X G q515.2) _
                      refine ab_U.run 1 (S' := (151, [some (.ref 232), some (.int q1.1)], [.ref 232], hp X G q515.2)) rfl ?_
                      obtain ⟨q517, h518, hf⟩ := ab_bnd hf
                      refine ab_U.fn rfl rfl (t_X9_step (X := X) hG h518) (by omega) ?_
                      show ab_U _ _ _ (154, [some (.ref 232), some (.int q1.1)], [], hp X G q517.2) _
                      obtain rfl := Option.some.inj hf
                      exact ab_U.ret rfl rfl ⟨rfl, rfl⟩
                · rw [if_neg b506] at hf
                  obtain rfl := Option.some.inj hf
                  exact ab_U.ret rfl rfl ⟨rfl, rfl⟩
              · rw [if_neg b501] at hf
                refine ab_U.run 2 (S' := (98, [some (.ref 232), some (.int q1.1)], [.int 4, .ref 232], hp X G q481.2)) rfl ?_
                obtain ⟨q519, h520, hf⟩ := ab_bnd hf
                refine ab_U.fn rfl rfl (t_X9_fails (X := X) hG h520) (by omega) ?_
                show ab_U _ _ _ (101, [some (.ref 232), some (.int q1.1)], [], hp X G q519.2) _
                refine ab_U.run 7 (S' := (110, [some (.ref 232), some (.int q1.1)], [.int ((q519.2.1 232 9) ||| (1 <<< (q1.1 &&& 31))), .ref 232], hp X G q519.2)) rfl ?_
                obtain ⟨m521, e522, hf⟩ := ab_bnd hf
                have e522 := Option.some.inj e522
                refine ab_U.pfI (ci := 9) (k9 := 9) rfl ⟨by decide, rfl⟩ ⟨rfl, rfl, by decide, rfl⟩ rfl ?_
                show ab_U _ _ _ (113, [some (.ref 232), some (.int q1.1)], [], hp X G (fm_sI q519.2 232 9 ((q519.2.1 232 9) ||| (1 <<< (q1.1 &&& 31))))) _
                rw [e522]
                refine ab_U.run 1 (S' := (114, [some (.ref 232), some (.int q1.1)], [.ref 232], hp X G m521)) rfl ?_
                obtain ⟨q523, h524, hf⟩ := ab_bnd hf
                refine ab_U.fn rfl rfl (t_X9_step (X := X) hG h524) (by omega) ?_
                show ab_U _ _ _ (117, [some (.ref 232), some (.int q1.1)], [], hp X G q523.2) _
                refine ab_U.run 2 (S' := (121, [some (.ref 232), some (.int q1.1)], [.int (q523.2.1 232 15)], hp X G q523.2)) rfl ?_
                refine ab_U.if_le rfl (fun b525 => ?_) (fun b525 => ?_)
                · rw [if_pos b525] at hf
                  refine ab_U.run 2 (S' := (127, [some (.ref 232), some (.int q1.1)], [.int q1.1, .ref 232], hp X G q523.2)) rfl ?_
                  obtain ⟨q526, h527, hf⟩ := ab_bnd hf
                  refine ab_U.fn rfl rfl (t_X9_readMore (X := X) hG h527) (by omega) ?_
                  show ab_U _ _ _ (130, [some (.ref 232), some (.int q1.1)], [], hp X G q526.2) _
                  refine ab_U.run 2 (S' := (134, [some (.ref 232), some (.int q1.1)], [.int (q526.2.1 232 15)], hp X G q526.2)) rfl ?_
                  refine ab_U.if_ne rfl (fun b528 => ?_) (fun b528 => ?_)
                  · rw [if_pos b528] at hf
                    refine ab_U.run 1 (S' := (151, [some (.ref 232), some (.int q1.1)], [.ref 232], hp X G q526.2)) rfl ?_
                    obtain ⟨q529, h530, hf⟩ := ab_bnd hf
                    refine ab_U.fn rfl rfl (t_X9_step (X := X) hG h530) (by omega) ?_
                    show ab_U _ _ _ (154, [some (.ref 232), some (.int q1.1)], [], hp X G q529.2) _
                    obtain rfl := Option.some.inj hf
                    exact ab_U.ret rfl rfl ⟨rfl, rfl⟩
                  · rw [if_neg b528] at hf
                    refine ab_U.run 3 (S' := (142, [some (.ref 232), some (.int q1.1)], [.int 3, .int (q526.2.1 232 19)], hp X G q526.2)) rfl ?_
                    refine ab_U.ic_eq rfl (fun b531 => ?_) (fun b531 => ?_)
                    · rw [if_pos b531] at hf
                      refine ab_U.run 1 (S' := (151, [some (.ref 232), some (.int q1.1)], [.ref 232], hp X G q526.2)) rfl ?_
                      obtain ⟨q532, h533, hf⟩ := ab_bnd hf
                      refine ab_U.fn rfl rfl (t_X9_step (X := X) hG h533) (by omega) ?_
                      show ab_U _ _ _ (154, [some (.ref 232), some (.int q1.1)], [], hp X G q532.2) _
                      obtain rfl := Option.some.inj hf
                      exact ab_U.ret rfl rfl ⟨rfl, rfl⟩
                    · rw [if_neg b531] at hf
                      refine ab_U.run 2 (S' := (147, [some (.ref 232), some (.int q1.1)], [.int 2, .ref 232], hp X G q526.2)) rfl ?_
                      obtain ⟨q534, h535, hf⟩ := ab_bnd hf
                      refine ab_U.fn rfl rfl (t_X9_fails (X := X) hG h535) (by omega) ?_
                      show ab_U _ _ _ (150, [some (.ref 232), some (.int q1.1)], [], hp X G q534.2) _
                      refine ab_U.run 1 (S' := (151, [some (.ref 232), some (.int q1.1)], [.ref 232], hp X G q534.2)) rfl ?_
                      obtain ⟨q536, h537, hf⟩ := ab_bnd hf
                      refine ab_U.fn rfl rfl (t_X9_step (X := X) hG h537) (by omega) ?_
                      show ab_U _ _ _ (154, [some (.ref 232), some (.int q1.1)], [], hp X G q536.2) _
                      obtain rfl := Option.some.inj hf
                      exact ab_U.ret rfl rfl ⟨rfl, rfl⟩
                · rw [if_neg b525] at hf
                  obtain rfl := Option.some.inj hf
                  exact ab_U.ret rfl rfl ⟨rfl, rfl⟩
          · rw [if_neg b480] at hf
            refine ab_U.run 3 (S' := (62, [some (.ref 232), some (.int q1.1)], [.int 4, .int (q3.2.1 232 8)], hp X G q3.2)) rfl ?_
            refine ab_U.ic_ne rfl (fun b538 => ?_) (fun b538 => ?_)
            · rw [if_pos b538] at hf
              refine ab_U.run 4 (S' := (78, [some (.ref 232), some (.int q1.1)], [.long (Int64.ofNat 7), .long (Int64.ofNat 6), .long (q1.1).toInt64], hp X G q3.2)) rfl ?_
              obtain ⟨q539, h540, hf⟩ := ab_bnd hf
              refine ab_U.fn rfl rfl (t_X9_in (X := X) hG h540) (by omega) ?_
              show ab_U _ _ _ (81, [some (.ref 232), some (.int q1.1)], [.int q539.1], hp X G q539.2) _
              refine ab_U.if_eq rfl (fun b541 => ?_) (fun b541 => ?_)
              · rw [if_pos b541] at hf
                refine ab_U.run 7 (S' := (110, [some (.ref 232), some (.int q1.1)], [.int ((q539.2.1 232 9) ||| (1 <<< (q1.1 &&& 31))), .ref 232], hp X G q539.2)) rfl ?_
                obtain ⟨m542, e543, hf⟩ := ab_bnd hf
                have e543 := Option.some.inj e543
                refine ab_U.pfI (ci := 9) (k9 := 9) rfl ⟨by decide, rfl⟩ ⟨rfl, rfl, by decide, rfl⟩ rfl ?_
                show ab_U _ _ _ (113, [some (.ref 232), some (.int q1.1)], [], hp X G (fm_sI q539.2 232 9 ((q539.2.1 232 9) ||| (1 <<< (q1.1 &&& 31))))) _
                rw [e543]
                refine ab_U.run 1 (S' := (114, [some (.ref 232), some (.int q1.1)], [.ref 232], hp X G m542)) rfl ?_
                obtain ⟨q544, h545, hf⟩ := ab_bnd hf
                refine ab_U.fn rfl rfl (t_X9_step (X := X) hG h545) (by omega) ?_
                show ab_U _ _ _ (117, [some (.ref 232), some (.int q1.1)], [], hp X G q544.2) _
                refine ab_U.run 2 (S' := (121, [some (.ref 232), some (.int q1.1)], [.int (q544.2.1 232 15)], hp X G q544.2)) rfl ?_
                refine ab_U.if_le rfl (fun b546 => ?_) (fun b546 => ?_)
                · rw [if_pos b546] at hf
                  refine ab_U.run 2 (S' := (127, [some (.ref 232), some (.int q1.1)], [.int q1.1, .ref 232], hp X G q544.2)) rfl ?_
                  obtain ⟨q547, h548, hf⟩ := ab_bnd hf
                  refine ab_U.fn rfl rfl (t_X9_readMore (X := X) hG h548) (by omega) ?_
                  show ab_U _ _ _ (130, [some (.ref 232), some (.int q1.1)], [], hp X G q547.2) _
                  refine ab_U.run 2 (S' := (134, [some (.ref 232), some (.int q1.1)], [.int (q547.2.1 232 15)], hp X G q547.2)) rfl ?_
                  refine ab_U.if_ne rfl (fun b549 => ?_) (fun b549 => ?_)
                  · rw [if_pos b549] at hf
                    refine ab_U.run 1 (S' := (151, [some (.ref 232), some (.int q1.1)], [.ref 232], hp X G q547.2)) rfl ?_
                    obtain ⟨q550, h551, hf⟩ := ab_bnd hf
                    refine ab_U.fn rfl rfl (t_X9_step (X := X) hG h551) (by omega) ?_
                    show ab_U _ _ _ (154, [some (.ref 232), some (.int q1.1)], [], hp X G q550.2) _
                    obtain rfl := Option.some.inj hf
                    exact ab_U.ret rfl rfl ⟨rfl, rfl⟩
                  · rw [if_neg b549] at hf
                    refine ab_U.run 3 (S' := (142, [some (.ref 232), some (.int q1.1)], [.int 3, .int (q547.2.1 232 19)], hp X G q547.2)) rfl ?_
                    refine ab_U.ic_eq rfl (fun b552 => ?_) (fun b552 => ?_)
                    · rw [if_pos b552] at hf
                      refine ab_U.run 1 (S' := (151, [some (.ref 232), some (.int q1.1)], [.ref 232], hp X G q547.2)) rfl ?_
                      obtain ⟨q553, h554, hf⟩ := ab_bnd hf
                      refine ab_U.fn rfl rfl (t_X9_step (X := X) hG h554) (by omega) ?_
                      show ab_U _ _ _ (154, [some (.ref 232), some (.int q1.1)], [], hp X G q553.2) _
                      obtain rfl := Option.some.inj hf
                      exact ab_U.ret rfl rfl ⟨rfl, rfl⟩
                    · rw [if_neg b552] at hf
                      refine ab_U.run 2 (S' := (147, [some (.ref 232), some (.int q1.1)], [.int 2, .ref 232], hp X G q547.2)) rfl ?_
                      obtain ⟨q555, h556, hf⟩ := ab_bnd hf
                      refine ab_U.fn rfl rfl (t_X9_fails (X := X) hG h556) (by omega) ?_
                      show ab_U _ _ _ (150, [some (.ref 232), some (.int q1.1)], [], hp X G q555.2) _
                      refine ab_U.run 1 (S' := (151, [some (.ref 232), some (.int q1.1)], [.ref 232], hp X G q555.2)) rfl ?_
                      obtain ⟨q557, h558, hf⟩ := ab_bnd hf
                      refine ab_U.fn rfl rfl (t_X9_step (X := X) hG h558) (by omega) ?_
                      show ab_U _ _ _ (154, [some (.ref 232), some (.int q1.1)], [], hp X G q557.2) _
                      obtain rfl := Option.some.inj hf
                      exact ab_U.ret rfl rfl ⟨rfl, rfl⟩
                · rw [if_neg b546] at hf
                  obtain rfl := Option.some.inj hf
                  exact ab_U.ret rfl rfl ⟨rfl, rfl⟩
              · rw [if_neg b541] at hf
                refine ab_U.run 7 (S' := (93, [some (.ref 232), some (.int q1.1)], [.int 1, .int (((q539.2.1 232 9) >>> (q1.1 &&& 31)) &&& 1)], hp X G q539.2)) rfl ?_
                refine ab_U.ic_ne rfl (fun b559 => ?_) (fun b559 => ?_)
                · rw [if_pos b559] at hf
                  refine ab_U.run 7 (S' := (110, [some (.ref 232), some (.int q1.1)], [.int ((q539.2.1 232 9) ||| (1 <<< (q1.1 &&& 31))), .ref 232], hp X G q539.2)) rfl ?_
                  obtain ⟨m560, e561, hf⟩ := ab_bnd hf
                  have e561 := Option.some.inj e561
                  refine ab_U.pfI (ci := 9) (k9 := 9) rfl ⟨by decide, rfl⟩ ⟨rfl, rfl, by decide, rfl⟩ rfl ?_
                  show ab_U _ _ _ (113, [some (.ref 232), some (.int q1.1)], [], hp X G (fm_sI q539.2 232 9 ((q539.2.1 232 9) ||| (1 <<< (q1.1 &&& 31))))) _
                  rw [e561]
                  refine ab_U.run 1 (S' := (114, [some (.ref 232), some (.int q1.1)], [.ref 232], hp X G m560)) rfl ?_
                  obtain ⟨q562, h563, hf⟩ := ab_bnd hf
                  refine ab_U.fn rfl rfl (t_X9_step (X := X) hG h563) (by omega) ?_
                  show ab_U _ _ _ (117, [some (.ref 232), some (.int q1.1)], [], hp X G q562.2) _
                  refine ab_U.run 2 (S' := (121, [some (.ref 232), some (.int q1.1)], [.int (q562.2.1 232 15)], hp X G q562.2)) rfl ?_
                  refine ab_U.if_le rfl (fun b564 => ?_) (fun b564 => ?_)
                  · rw [if_pos b564] at hf
                    refine ab_U.run 2 (S' := (127, [some (.ref 232), some (.int q1.1)], [.int q1.1, .ref 232], hp X G q562.2)) rfl ?_
                    obtain ⟨q565, h566, hf⟩ := ab_bnd hf
                    refine ab_U.fn rfl rfl (t_X9_readMore (X := X) hG h566) (by omega) ?_
                    show ab_U _ _ _ (130, [some (.ref 232), some (.int q1.1)], [], hp X G q565.2) _
                    refine ab_U.run 2 (S' := (134, [some (.ref 232), some (.int q1.1)], [.int (q565.2.1 232 15)], hp X G q565.2)) rfl ?_
                    refine ab_U.if_ne rfl (fun b567 => ?_) (fun b567 => ?_)
                    · rw [if_pos b567] at hf
                      refine ab_U.run 1 (S' := (151, [some (.ref 232), some (.int q1.1)], [.ref 232], hp X G q565.2)) rfl ?_
                      obtain ⟨q568, h569, hf⟩ := ab_bnd hf
                      refine ab_U.fn rfl rfl (t_X9_step (X := X) hG h569) (by omega) ?_
                      show ab_U _ _ _ (154, [some (.ref 232), some (.int q1.1)], [], hp X G q568.2) _
                      obtain rfl := Option.some.inj hf
                      exact ab_U.ret rfl rfl ⟨rfl, rfl⟩
                    · rw [if_neg b567] at hf
                      refine ab_U.run 3 (S' := (142, [some (.ref 232), some (.int q1.1)], [.int 3, .int (q565.2.1 232 19)], hp X G q565.2)) rfl ?_
                      refine ab_U.ic_eq rfl (fun b570 => ?_) (fun b570 => ?_)
                      · rw [if_pos b570] at hf
                        refine ab_U.run 1 (S' := (151, [some (.ref 232), some (.int q1.1)], [.ref 232], hp X G q565.2)) rfl ?_
                        obtain ⟨q571, h572, hf⟩ := ab_bnd hf
                        refine ab_U.fn rfl rfl (t_X9_step (X := X) hG h572) (by omega) ?_
                        show ab_U _ _ _ (154, [some (.ref 232), some (.int q1.1)], [], hp X G q571.2) _
                        obtain rfl := Option.some.inj hf
                        exact ab_U.ret rfl rfl ⟨rfl, rfl⟩
                      · rw [if_neg b570] at hf
                        refine ab_U.run 2 (S' := (147, [some (.ref 232), some (.int q1.1)], [.int 2, .ref 232], hp X G q565.2)) rfl ?_
                        obtain ⟨q573, h574, hf⟩ := ab_bnd hf
                        refine ab_U.fn rfl rfl (t_X9_fails (X := X) hG h574) (by omega) ?_
                        show ab_U _ _ _ (150, [some (.ref 232), some (.int q1.1)], [], hp X G q573.2) _
                        refine ab_U.run 1 (S' := (151, [some (.ref 232), some (.int q1.1)], [.ref 232], hp X G q573.2)) rfl ?_
                        obtain ⟨q575, h576, hf⟩ := ab_bnd hf
                        refine ab_U.fn rfl rfl (t_X9_step (X := X) hG h576) (by omega) ?_
                        show ab_U _ _ _ (154, [some (.ref 232), some (.int q1.1)], [], hp X G q575.2) _
                        obtain rfl := Option.some.inj hf
                        exact ab_U.ret rfl rfl ⟨rfl, rfl⟩
                  · rw [if_neg b564] at hf
                    obtain rfl := Option.some.inj hf
                    exact ab_U.ret rfl rfl ⟨rfl, rfl⟩
                · rw [if_neg b559] at hf
                  refine ab_U.run 2 (S' := (98, [some (.ref 232), some (.int q1.1)], [.int 4, .ref 232], hp X G q539.2)) rfl ?_
                  obtain ⟨q577, h578, hf⟩ := ab_bnd hf
                  refine ab_U.fn rfl rfl (t_X9_fails (X := X) hG h578) (by omega) ?_
                  show ab_U _ _ _ (101, [some (.ref 232), some (.int q1.1)], [], hp X G q577.2) _
                  refine ab_U.run 7 (S' := (110, [some (.ref 232), some (.int q1.1)], [.int ((q577.2.1 232 9) ||| (1 <<< (q1.1 &&& 31))), .ref 232], hp X G q577.2)) rfl ?_
                  obtain ⟨m579, e580, hf⟩ := ab_bnd hf
                  have e580 := Option.some.inj e580
                  refine ab_U.pfI (ci := 9) (k9 := 9) rfl ⟨by decide, rfl⟩ ⟨rfl, rfl, by decide, rfl⟩ rfl ?_
                  show ab_U _ _ _ (113, [some (.ref 232), some (.int q1.1)], [], hp X G (fm_sI q577.2 232 9 ((q577.2.1 232 9) ||| (1 <<< (q1.1 &&& 31))))) _
                  rw [e580]
                  refine ab_U.run 1 (S' := (114, [some (.ref 232), some (.int q1.1)], [.ref 232], hp X G m579)) rfl ?_
                  obtain ⟨q581, h582, hf⟩ := ab_bnd hf
                  refine ab_U.fn rfl rfl (t_X9_step (X := X) hG h582) (by omega) ?_
                  show ab_U _ _ _ (117, [some (.ref 232), some (.int q1.1)], [], hp X G q581.2) _
                  refine ab_U.run 2 (S' := (121, [some (.ref 232), some (.int q1.1)], [.int (q581.2.1 232 15)], hp X G q581.2)) rfl ?_
                  refine ab_U.if_le rfl (fun b583 => ?_) (fun b583 => ?_)
                  · rw [if_pos b583] at hf
                    refine ab_U.run 2 (S' := (127, [some (.ref 232), some (.int q1.1)], [.int q1.1, .ref 232], hp X G q581.2)) rfl ?_
                    obtain ⟨q584, h585, hf⟩ := ab_bnd hf
                    refine ab_U.fn rfl rfl (t_X9_readMore (X := X) hG h585) (by omega) ?_
                    show ab_U _ _ _ (130, [some (.ref 232), some (.int q1.1)], [], hp X G q584.2) _
                    refine ab_U.run 2 (S' := (134, [some (.ref 232), some (.int q1.1)], [.int (q584.2.1 232 15)], hp X G q584.2)) rfl ?_
                    refine ab_U.if_ne rfl (fun b586 => ?_) (fun b586 => ?_)
                    · rw [if_pos b586] at hf
                      refine ab_U.run 1 (S' := (151, [some (.ref 232), some (.int q1.1)], [.ref 232], hp X G q584.2)) rfl ?_
                      obtain ⟨q587, h588, hf⟩ := ab_bnd hf
                      refine ab_U.fn rfl rfl (t_X9_step (X := X) hG h588) (by omega) ?_
                      show ab_U _ _ _ (154, [some (.ref 232), some (.int q1.1)], [], hp X G q587.2) _
                      obtain rfl := Option.some.inj hf
                      exact ab_U.ret rfl rfl ⟨rfl, rfl⟩
                    · rw [if_neg b586] at hf
                      refine ab_U.run 3 (S' := (142, [some (.ref 232), some (.int q1.1)], [.int 3, .int (q584.2.1 232 19)], hp X G q584.2)) rfl ?_
                      refine ab_U.ic_eq rfl (fun b589 => ?_) (fun b589 => ?_)
                      · rw [if_pos b589] at hf
                        refine ab_U.run 1 (S' := (151, [some (.ref 232), some (.int q1.1)], [.ref 232], hp X G q584.2)) rfl ?_
                        obtain ⟨q590, h591, hf⟩ := ab_bnd hf
                        refine ab_U.fn rfl rfl (t_X9_step (X := X) hG h591) (by omega) ?_
                        show ab_U _ _ _ (154, [some (.ref 232), some (.int q1.1)], [], hp X G q590.2) _
                        obtain rfl := Option.some.inj hf
                        exact ab_U.ret rfl rfl ⟨rfl, rfl⟩
                      · rw [if_neg b589] at hf
                        refine ab_U.run 2 (S' := (147, [some (.ref 232), some (.int q1.1)], [.int 2, .ref 232], hp X G q584.2)) rfl ?_
                        obtain ⟨q592, h593, hf⟩ := ab_bnd hf
                        refine ab_U.fn rfl rfl (t_X9_fails (X := X) hG h593) (by omega) ?_
                        show ab_U _ _ _ (150, [some (.ref 232), some (.int q1.1)], [], hp X G q592.2) _
                        refine ab_U.run 1 (S' := (151, [some (.ref 232), some (.int q1.1)], [.ref 232], hp X G q592.2)) rfl ?_
                        obtain ⟨q594, h595, hf⟩ := ab_bnd hf
                        refine ab_U.fn rfl rfl (t_X9_step (X := X) hG h595) (by omega) ?_
                        show ab_U _ _ _ (154, [some (.ref 232), some (.int q1.1)], [], hp X G q594.2) _
                        obtain rfl := Option.some.inj hf
                        exact ab_U.ret rfl rfl ⟨rfl, rfl⟩
                  · rw [if_neg b583] at hf
                    obtain rfl := Option.some.inj hf
                    exact ab_U.ret rfl rfl ⟨rfl, rfl⟩
            · rw [if_neg b538] at hf
              refine ab_U.run 2 (S' := (67, [some (.ref 232), some (.int q1.1)], [.int 5, .ref 232], hp X G q3.2)) rfl ?_
              obtain ⟨q596, h597, hf⟩ := ab_bnd hf
              refine ab_U.fn rfl rfl (t_X9_fails (X := X) hG h597) (by omega) ?_
              show ab_U _ _ _ (70, [some (.ref 232), some (.int q1.1)], [], hp X G q596.2) _
              refine ab_U.run 4 (S' := (78, [some (.ref 232), some (.int q1.1)], [.long (Int64.ofNat 7), .long (Int64.ofNat 6), .long (q1.1).toInt64], hp X G q596.2)) rfl ?_
              obtain ⟨q598, h599, hf⟩ := ab_bnd hf
              refine ab_U.fn rfl rfl (t_X9_in (X := X) hG h599) (by omega) ?_
              show ab_U _ _ _ (81, [some (.ref 232), some (.int q1.1)], [.int q598.1], hp X G q598.2) _
              refine ab_U.if_eq rfl (fun b600 => ?_) (fun b600 => ?_)
              · rw [if_pos b600] at hf
                refine ab_U.run 7 (S' := (110, [some (.ref 232), some (.int q1.1)], [.int ((q598.2.1 232 9) ||| (1 <<< (q1.1 &&& 31))), .ref 232], hp X G q598.2)) rfl ?_
                obtain ⟨m601, e602, hf⟩ := ab_bnd hf
                have e602 := Option.some.inj e602
                refine ab_U.pfI (ci := 9) (k9 := 9) rfl ⟨by decide, rfl⟩ ⟨rfl, rfl, by decide, rfl⟩ rfl ?_
                show ab_U _ _ _ (113, [some (.ref 232), some (.int q1.1)], [], hp X G (fm_sI q598.2 232 9 ((q598.2.1 232 9) ||| (1 <<< (q1.1 &&& 31))))) _
                rw [e602]
                refine ab_U.run 1 (S' := (114, [some (.ref 232), some (.int q1.1)], [.ref 232], hp X G m601)) rfl ?_
                obtain ⟨q603, h604, hf⟩ := ab_bnd hf
                refine ab_U.fn rfl rfl (t_X9_step (X := X) hG h604) (by omega) ?_
                show ab_U _ _ _ (117, [some (.ref 232), some (.int q1.1)], [], hp X G q603.2) _
                refine ab_U.run 2 (S' := (121, [some (.ref 232), some (.int q1.1)], [.int (q603.2.1 232 15)], hp X G q603.2)) rfl ?_
                refine ab_U.if_le rfl (fun b605 => ?_) (fun b605 => ?_)
                · rw [if_pos b605] at hf
                  refine ab_U.run 2 (S' := (127, [some (.ref 232), some (.int q1.1)], [.int q1.1, .ref 232], hp X G q603.2)) rfl ?_
                  obtain ⟨q606, h607, hf⟩ := ab_bnd hf
                  refine ab_U.fn rfl rfl (t_X9_readMore (X := X) hG h607) (by omega) ?_
                  show ab_U _ _ _ (130, [some (.ref 232), some (.int q1.1)], [], hp X G q606.2) _
                  refine ab_U.run 2 (S' := (134, [some (.ref 232), some (.int q1.1)], [.int (q606.2.1 232 15)], hp X G q606.2)) rfl ?_
                  refine ab_U.if_ne rfl (fun b608 => ?_) (fun b608 => ?_)
                  · rw [if_pos b608] at hf
                    refine ab_U.run 1 (S' := (151, [some (.ref 232), some (.int q1.1)], [.ref 232], hp X G q606.2)) rfl ?_
                    obtain ⟨q609, h610, hf⟩ := ab_bnd hf
                    refine ab_U.fn rfl rfl (t_X9_step (X := X) hG h610) (by omega) ?_
                    show ab_U _ _ _ (154, [some (.ref 232), some (.int q1.1)], [], hp X G q609.2) _
                    obtain rfl := Option.some.inj hf
                    exact ab_U.ret rfl rfl ⟨rfl, rfl⟩
                  · rw [if_neg b608] at hf
                    refine ab_U.run 3 (S' := (142, [some (.ref 232), some (.int q1.1)], [.int 3, .int (q606.2.1 232 19)], hp X G q606.2)) rfl ?_
                    refine ab_U.ic_eq rfl (fun b611 => ?_) (fun b611 => ?_)
                    · rw [if_pos b611] at hf
                      refine ab_U.run 1 (S' := (151, [some (.ref 232), some (.int q1.1)], [.ref 232], hp X G q606.2)) rfl ?_
                      obtain ⟨q612, h613, hf⟩ := ab_bnd hf
                      refine ab_U.fn rfl rfl (t_X9_step (X := X) hG h613) (by omega) ?_
                      show ab_U _ _ _ (154, [some (.ref 232), some (.int q1.1)], [], hp X G q612.2) _
                      obtain rfl := Option.some.inj hf
                      exact ab_U.ret rfl rfl ⟨rfl, rfl⟩
                    · rw [if_neg b611] at hf
                      refine ab_U.run 2 (S' := (147, [some (.ref 232), some (.int q1.1)], [.int 2, .ref 232], hp X G q606.2)) rfl ?_
                      obtain ⟨q614, h615, hf⟩ := ab_bnd hf
                      refine ab_U.fn rfl rfl (t_X9_fails (X := X) hG h615) (by omega) ?_
                      show ab_U _ _ _ (150, [some (.ref 232), some (.int q1.1)], [], hp X G q614.2) _
                      refine ab_U.run 1 (S' := (151, [some (.ref 232), some (.int q1.1)], [.ref 232], hp X G q614.2)) rfl ?_
                      obtain ⟨q616, h617, hf⟩ := ab_bnd hf
                      refine ab_U.fn rfl rfl (t_X9_step (X := X) hG h617) (by omega) ?_
                      show ab_U _ _ _ (154, [some (.ref 232), some (.int q1.1)], [], hp X G q616.2) _
                      obtain rfl := Option.some.inj hf
                      exact ab_U.ret rfl rfl ⟨rfl, rfl⟩
                · rw [if_neg b605] at hf
                  obtain rfl := Option.some.inj hf
                  exact ab_U.ret rfl rfl ⟨rfl, rfl⟩
              · rw [if_neg b600] at hf
                refine ab_U.run 7 (S' := (93, [some (.ref 232), some (.int q1.1)], [.int 1, .int (((q598.2.1 232 9) >>> (q1.1 &&& 31)) &&& 1)], hp X G q598.2)) rfl ?_
                refine ab_U.ic_ne rfl (fun b618 => ?_) (fun b618 => ?_)
                · rw [if_pos b618] at hf
                  refine ab_U.run 7 (S' := (110, [some (.ref 232), some (.int q1.1)], [.int ((q598.2.1 232 9) ||| (1 <<< (q1.1 &&& 31))), .ref 232], hp X G q598.2)) rfl ?_
                  obtain ⟨m619, e620, hf⟩ := ab_bnd hf
                  have e620 := Option.some.inj e620
                  refine ab_U.pfI (ci := 9) (k9 := 9) rfl ⟨by decide, rfl⟩ ⟨rfl, rfl, by decide, rfl⟩ rfl ?_
                  show ab_U _ _ _ (113, [some (.ref 232), some (.int q1.1)], [], hp X G (fm_sI q598.2 232 9 ((q598.2.1 232 9) ||| (1 <<< (q1.1 &&& 31))))) _
                  rw [e620]
                  refine ab_U.run 1 (S' := (114, [some (.ref 232), some (.int q1.1)], [.ref 232], hp X G m619)) rfl ?_
                  obtain ⟨q621, h622, hf⟩ := ab_bnd hf
                  refine ab_U.fn rfl rfl (t_X9_step (X := X) hG h622) (by omega) ?_
                  show ab_U _ _ _ (117, [some (.ref 232), some (.int q1.1)], [], hp X G q621.2) _
                  refine ab_U.run 2 (S' := (121, [some (.ref 232), some (.int q1.1)], [.int (q621.2.1 232 15)], hp X G q621.2)) rfl ?_
                  refine ab_U.if_le rfl (fun b623 => ?_) (fun b623 => ?_)
                  · rw [if_pos b623] at hf
                    refine ab_U.run 2 (S' := (127, [some (.ref 232), some (.int q1.1)], [.int q1.1, .ref 232], hp X G q621.2)) rfl ?_
                    obtain ⟨q624, h625, hf⟩ := ab_bnd hf
                    refine ab_U.fn rfl rfl (t_X9_readMore (X := X) hG h625) (by omega) ?_
                    show ab_U _ _ _ (130, [some (.ref 232), some (.int q1.1)], [], hp X G q624.2) _
                    refine ab_U.run 2 (S' := (134, [some (.ref 232), some (.int q1.1)], [.int (q624.2.1 232 15)], hp X G q624.2)) rfl ?_
                    refine ab_U.if_ne rfl (fun b626 => ?_) (fun b626 => ?_)
                    · rw [if_pos b626] at hf
                      refine ab_U.run 1 (S' := (151, [some (.ref 232), some (.int q1.1)], [.ref 232], hp X G q624.2)) rfl ?_
                      obtain ⟨q627, h628, hf⟩ := ab_bnd hf
                      refine ab_U.fn rfl rfl (t_X9_step (X := X) hG h628) (by omega) ?_
                      show ab_U _ _ _ (154, [some (.ref 232), some (.int q1.1)], [], hp X G q627.2) _
                      obtain rfl := Option.some.inj hf
                      exact ab_U.ret rfl rfl ⟨rfl, rfl⟩
                    · rw [if_neg b626] at hf
                      refine ab_U.run 3 (S' := (142, [some (.ref 232), some (.int q1.1)], [.int 3, .int (q624.2.1 232 19)], hp X G q624.2)) rfl ?_
                      refine ab_U.ic_eq rfl (fun b629 => ?_) (fun b629 => ?_)
                      · rw [if_pos b629] at hf
                        refine ab_U.run 1 (S' := (151, [some (.ref 232), some (.int q1.1)], [.ref 232], hp X G q624.2)) rfl ?_
                        obtain ⟨q630, h631, hf⟩ := ab_bnd hf
                        refine ab_U.fn rfl rfl (t_X9_step (X := X) hG h631) (by omega) ?_
                        show ab_U _ _ _ (154, [some (.ref 232), some (.int q1.1)], [], hp X G q630.2) _
                        obtain rfl := Option.some.inj hf
                        exact ab_U.ret rfl rfl ⟨rfl, rfl⟩
                      · rw [if_neg b629] at hf
                        refine ab_U.run 2 (S' := (147, [some (.ref 232), some (.int q1.1)], [.int 2, .ref 232], hp X G q624.2)) rfl ?_
                        obtain ⟨q632, h633, hf⟩ := ab_bnd hf
                        refine ab_U.fn rfl rfl (t_X9_fails (X := X) hG h633) (by omega) ?_
                        show ab_U _ _ _ (150, [some (.ref 232), some (.int q1.1)], [], hp X G q632.2) _
                        refine ab_U.run 1 (S' := (151, [some (.ref 232), some (.int q1.1)], [.ref 232], hp X G q632.2)) rfl ?_
                        obtain ⟨q634, h635, hf⟩ := ab_bnd hf
                        refine ab_U.fn rfl rfl (t_X9_step (X := X) hG h635) (by omega) ?_
                        show ab_U _ _ _ (154, [some (.ref 232), some (.int q1.1)], [], hp X G q634.2) _
                        obtain rfl := Option.some.inj hf
                        exact ab_U.ret rfl rfl ⟨rfl, rfl⟩
                  · rw [if_neg b623] at hf
                    obtain rfl := Option.some.inj hf
                    exact ab_U.ret rfl rfl ⟨rfl, rfl⟩
                · rw [if_neg b618] at hf
                  refine ab_U.run 2 (S' := (98, [some (.ref 232), some (.int q1.1)], [.int 4, .ref 232], hp X G q598.2)) rfl ?_
                  obtain ⟨q636, h637, hf⟩ := ab_bnd hf
                  refine ab_U.fn rfl rfl (t_X9_fails (X := X) hG h637) (by omega) ?_
                  show ab_U _ _ _ (101, [some (.ref 232), some (.int q1.1)], [], hp X G q636.2) _
                  refine ab_U.run 7 (S' := (110, [some (.ref 232), some (.int q1.1)], [.int ((q636.2.1 232 9) ||| (1 <<< (q1.1 &&& 31))), .ref 232], hp X G q636.2)) rfl ?_
                  obtain ⟨m638, e639, hf⟩ := ab_bnd hf
                  have e639 := Option.some.inj e639
                  refine ab_U.pfI (ci := 9) (k9 := 9) rfl ⟨by decide, rfl⟩ ⟨rfl, rfl, by decide, rfl⟩ rfl ?_
                  show ab_U _ _ _ (113, [some (.ref 232), some (.int q1.1)], [], hp X G (fm_sI q636.2 232 9 ((q636.2.1 232 9) ||| (1 <<< (q1.1 &&& 31))))) _
                  rw [e639]
                  refine ab_U.run 1 (S' := (114, [some (.ref 232), some (.int q1.1)], [.ref 232], hp X G m638)) rfl ?_
                  obtain ⟨q640, h641, hf⟩ := ab_bnd hf
                  refine ab_U.fn rfl rfl (t_X9_step (X := X) hG h641) (by omega) ?_
                  show ab_U _ _ _ (117, [some (.ref 232), some (.int q1.1)], [], hp X G q640.2) _
                  refine ab_U.run 2 (S' := (121, [some (.ref 232), some (.int q1.1)], [.int (q640.2.1 232 15)], hp X G q640.2)) rfl ?_
                  refine ab_U.if_le rfl (fun b642 => ?_) (fun b642 => ?_)
                  · rw [if_pos b642] at hf
                    refine ab_U.run 2 (S' := (127, [some (.ref 232), some (.int q1.1)], [.int q1.1, .ref 232], hp X G q640.2)) rfl ?_
                    obtain ⟨q643, h644, hf⟩ := ab_bnd hf
                    refine ab_U.fn rfl rfl (t_X9_readMore (X := X) hG h644) (by omega) ?_
                    show ab_U _ _ _ (130, [some (.ref 232), some (.int q1.1)], [], hp X G q643.2) _
                    refine ab_U.run 2 (S' := (134, [some (.ref 232), some (.int q1.1)], [.int (q643.2.1 232 15)], hp X G q643.2)) rfl ?_
                    refine ab_U.if_ne rfl (fun b645 => ?_) (fun b645 => ?_)
                    · rw [if_pos b645] at hf
                      refine ab_U.run 1 (S' := (151, [some (.ref 232), some (.int q1.1)], [.ref 232], hp X G q643.2)) rfl ?_
                      obtain ⟨q646, h647, hf⟩ := ab_bnd hf
                      refine ab_U.fn rfl rfl (t_X9_step (X := X) hG h647) (by omega) ?_
                      show ab_U _ _ _ (154, [some (.ref 232), some (.int q1.1)], [], hp X G q646.2) _
                      obtain rfl := Option.some.inj hf
                      exact ab_U.ret rfl rfl ⟨rfl, rfl⟩
                    · rw [if_neg b645] at hf
                      refine ab_U.run 3 (S' := (142, [some (.ref 232), some (.int q1.1)], [.int 3, .int (q643.2.1 232 19)], hp X G q643.2)) rfl ?_
                      refine ab_U.ic_eq rfl (fun b648 => ?_) (fun b648 => ?_)
                      · rw [if_pos b648] at hf
                        refine ab_U.run 1 (S' := (151, [some (.ref 232), some (.int q1.1)], [.ref 232], hp X G q643.2)) rfl ?_
                        obtain ⟨q649, h650, hf⟩ := ab_bnd hf
                        refine ab_U.fn rfl rfl (t_X9_step (X := X) hG h650) (by omega) ?_
                        show ab_U _ _ _ (154, [some (.ref 232), some (.int q1.1)], [], hp X G q649.2) _
                        obtain rfl := Option.some.inj hf
                        exact ab_U.ret rfl rfl ⟨rfl, rfl⟩
                      · rw [if_neg b648] at hf
                        refine ab_U.run 2 (S' := (147, [some (.ref 232), some (.int q1.1)], [.int 2, .ref 232], hp X G q643.2)) rfl ?_
                        obtain ⟨q651, h652, hf⟩ := ab_bnd hf
                        refine ab_U.fn rfl rfl (t_X9_fails (X := X) hG h652) (by omega) ?_
                        show ab_U _ _ _ (150, [some (.ref 232), some (.int q1.1)], [], hp X G q651.2) _
                        refine ab_U.run 1 (S' := (151, [some (.ref 232), some (.int q1.1)], [.ref 232], hp X G q651.2)) rfl ?_
                        obtain ⟨q653, h654, hf⟩ := ab_bnd hf
                        refine ab_U.fn rfl rfl (t_X9_step (X := X) hG h654) (by omega) ?_
                        show ab_U _ _ _ (154, [some (.ref 232), some (.int q1.1)], [], hp X G q653.2) _
                        obtain rfl := Option.some.inj hf
                        exact ab_U.ret rfl rfl ⟨rfl, rfl⟩
                  · rw [if_neg b642] at hf
                    obtain rfl := Option.some.inj hf
                    exact ab_U.ret rfl rfl ⟨rfl, rfl⟩
        · rw [if_neg b479] at hf
          refine ab_U.run 3 (S' := (49, [some (.ref 232), some (.int q1.1)], [.int 4, .int (q3.2.1 232 7)], hp X G q3.2)) rfl ?_
          refine ab_U.ic_eq rfl (fun b655 => ?_) (fun b655 => ?_)
          · rw [if_pos b655] at hf
            refine ab_U.run 2 (S' := (67, [some (.ref 232), some (.int q1.1)], [.int 5, .ref 232], hp X G q3.2)) rfl ?_
            obtain ⟨q656, h657, hf⟩ := ab_bnd hf
            refine ab_U.fn rfl rfl (t_X9_fails (X := X) hG h657) (by omega) ?_
            show ab_U _ _ _ (70, [some (.ref 232), some (.int q1.1)], [], hp X G q656.2) _
            refine ab_U.run 4 (S' := (78, [some (.ref 232), some (.int q1.1)], [.long (Int64.ofNat 7), .long (Int64.ofNat 6), .long (q1.1).toInt64], hp X G q656.2)) rfl ?_
            obtain ⟨q658, h659, hf⟩ := ab_bnd hf
            refine ab_U.fn rfl rfl (t_X9_in (X := X) hG h659) (by omega) ?_
            show ab_U _ _ _ (81, [some (.ref 232), some (.int q1.1)], [.int q658.1], hp X G q658.2) _
            refine ab_U.if_eq rfl (fun b660 => ?_) (fun b660 => ?_)
            · rw [if_pos b660] at hf
              refine ab_U.run 7 (S' := (110, [some (.ref 232), some (.int q1.1)], [.int ((q658.2.1 232 9) ||| (1 <<< (q1.1 &&& 31))), .ref 232], hp X G q658.2)) rfl ?_
              obtain ⟨m661, e662, hf⟩ := ab_bnd hf
              have e662 := Option.some.inj e662
              refine ab_U.pfI (ci := 9) (k9 := 9) rfl ⟨by decide, rfl⟩ ⟨rfl, rfl, by decide, rfl⟩ rfl ?_
              show ab_U _ _ _ (113, [some (.ref 232), some (.int q1.1)], [], hp X G (fm_sI q658.2 232 9 ((q658.2.1 232 9) ||| (1 <<< (q1.1 &&& 31))))) _
              rw [e662]
              refine ab_U.run 1 (S' := (114, [some (.ref 232), some (.int q1.1)], [.ref 232], hp X G m661)) rfl ?_
              obtain ⟨q663, h664, hf⟩ := ab_bnd hf
              refine ab_U.fn rfl rfl (t_X9_step (X := X) hG h664) (by omega) ?_
              show ab_U _ _ _ (117, [some (.ref 232), some (.int q1.1)], [], hp X G q663.2) _
              refine ab_U.run 2 (S' := (121, [some (.ref 232), some (.int q1.1)], [.int (q663.2.1 232 15)], hp X G q663.2)) rfl ?_
              refine ab_U.if_le rfl (fun b665 => ?_) (fun b665 => ?_)
              · rw [if_pos b665] at hf
                refine ab_U.run 2 (S' := (127, [some (.ref 232), some (.int q1.1)], [.int q1.1, .ref 232], hp X G q663.2)) rfl ?_
                obtain ⟨q666, h667, hf⟩ := ab_bnd hf
                refine ab_U.fn rfl rfl (t_X9_readMore (X := X) hG h667) (by omega) ?_
                show ab_U _ _ _ (130, [some (.ref 232), some (.int q1.1)], [], hp X G q666.2) _
                refine ab_U.run 2 (S' := (134, [some (.ref 232), some (.int q1.1)], [.int (q666.2.1 232 15)], hp X G q666.2)) rfl ?_
                refine ab_U.if_ne rfl (fun b668 => ?_) (fun b668 => ?_)
                · rw [if_pos b668] at hf
                  refine ab_U.run 1 (S' := (151, [some (.ref 232), some (.int q1.1)], [.ref 232], hp X G q666.2)) rfl ?_
                  obtain ⟨q669, h670, hf⟩ := ab_bnd hf
                  refine ab_U.fn rfl rfl (t_X9_step (X := X) hG h670) (by omega) ?_
                  show ab_U _ _ _ (154, [some (.ref 232), some (.int q1.1)], [], hp X G q669.2) _
                  obtain rfl := Option.some.inj hf
                  exact ab_U.ret rfl rfl ⟨rfl, rfl⟩
                · rw [if_neg b668] at hf
                  refine ab_U.run 3 (S' := (142, [some (.ref 232), some (.int q1.1)], [.int 3, .int (q666.2.1 232 19)], hp X G q666.2)) rfl ?_
                  refine ab_U.ic_eq rfl (fun b671 => ?_) (fun b671 => ?_)
                  · rw [if_pos b671] at hf
                    refine ab_U.run 1 (S' := (151, [some (.ref 232), some (.int q1.1)], [.ref 232], hp X G q666.2)) rfl ?_
                    obtain ⟨q672, h673, hf⟩ := ab_bnd hf
                    refine ab_U.fn rfl rfl (t_X9_step (X := X) hG h673) (by omega) ?_
                    show ab_U _ _ _ (154, [some (.ref 232), some (.int q1.1)], [], hp X G q672.2) _
                    obtain rfl := Option.some.inj hf
                    exact ab_U.ret rfl rfl ⟨rfl, rfl⟩
                  · rw [if_neg b671] at hf
                    refine ab_U.run 2 (S' := (147, [some (.ref 232), some (.int q1.1)], [.int 2, .ref 232], hp X G q666.2)) rfl ?_
                    obtain ⟨q674, h675, hf⟩ := ab_bnd hf
                    refine ab_U.fn rfl rfl (t_X9_fails (X := X) hG h675) (by omega) ?_
                    show ab_U _ _ _ (150, [some (.ref 232), some (.int q1.1)], [], hp X G q674.2) _
                    refine ab_U.run 1 (S' := (151, [some (.ref 232), some (.int q1.1)], [.ref 232], hp X G q674.2)) rfl ?_
                    obtain ⟨q676, h677, hf⟩ := ab_bnd hf
                    refine ab_U.fn rfl rfl (t_X9_step (X := X) hG h677) (by omega) ?_
                    show ab_U _ _ _ (154, [some (.ref 232), some (.int q1.1)], [], hp X G q676.2) _
                    obtain rfl := Option.some.inj hf
                    exact ab_U.ret rfl rfl ⟨rfl, rfl⟩
              · rw [if_neg b665] at hf
                obtain rfl := Option.some.inj hf
                exact ab_U.ret rfl rfl ⟨rfl, rfl⟩
            · rw [if_neg b660] at hf
              refine ab_U.run 7 (S' := (93, [some (.ref 232), some (.int q1.1)], [.int 1, .int (((q658.2.1 232 9) >>> (q1.1 &&& 31)) &&& 1)], hp X G q658.2)) rfl ?_
              refine ab_U.ic_ne rfl (fun b678 => ?_) (fun b678 => ?_)
              · rw [if_pos b678] at hf
                refine ab_U.run 7 (S' := (110, [some (.ref 232), some (.int q1.1)], [.int ((q658.2.1 232 9) ||| (1 <<< (q1.1 &&& 31))), .ref 232], hp X G q658.2)) rfl ?_
                obtain ⟨m679, e680, hf⟩ := ab_bnd hf
                have e680 := Option.some.inj e680
                refine ab_U.pfI (ci := 9) (k9 := 9) rfl ⟨by decide, rfl⟩ ⟨rfl, rfl, by decide, rfl⟩ rfl ?_
                show ab_U _ _ _ (113, [some (.ref 232), some (.int q1.1)], [], hp X G (fm_sI q658.2 232 9 ((q658.2.1 232 9) ||| (1 <<< (q1.1 &&& 31))))) _
                rw [e680]
                refine ab_U.run 1 (S' := (114, [some (.ref 232), some (.int q1.1)], [.ref 232], hp X G m679)) rfl ?_
                obtain ⟨q681, h682, hf⟩ := ab_bnd hf
                refine ab_U.fn rfl rfl (t_X9_step (X := X) hG h682) (by omega) ?_
                show ab_U _ _ _ (117, [some (.ref 232), some (.int q1.1)], [], hp X G q681.2) _
                refine ab_U.run 2 (S' := (121, [some (.ref 232), some (.int q1.1)], [.int (q681.2.1 232 15)], hp X G q681.2)) rfl ?_
                refine ab_U.if_le rfl (fun b683 => ?_) (fun b683 => ?_)
                · rw [if_pos b683] at hf
                  refine ab_U.run 2 (S' := (127, [some (.ref 232), some (.int q1.1)], [.int q1.1, .ref 232], hp X G q681.2)) rfl ?_
                  obtain ⟨q684, h685, hf⟩ := ab_bnd hf
                  refine ab_U.fn rfl rfl (t_X9_readMore (X := X) hG h685) (by omega) ?_
                  show ab_U _ _ _ (130, [some (.ref 232), some (.int q1.1)], [], hp X G q684.2) _
                  refine ab_U.run 2 (S' := (134, [some (.ref 232), some (.int q1.1)], [.int (q684.2.1 232 15)], hp X G q684.2)) rfl ?_
                  refine ab_U.if_ne rfl (fun b686 => ?_) (fun b686 => ?_)
                  · rw [if_pos b686] at hf
                    refine ab_U.run 1 (S' := (151, [some (.ref 232), some (.int q1.1)], [.ref 232], hp X G q684.2)) rfl ?_
                    obtain ⟨q687, h688, hf⟩ := ab_bnd hf
                    refine ab_U.fn rfl rfl (t_X9_step (X := X) hG h688) (by omega) ?_
                    show ab_U _ _ _ (154, [some (.ref 232), some (.int q1.1)], [], hp X G q687.2) _
                    obtain rfl := Option.some.inj hf
                    exact ab_U.ret rfl rfl ⟨rfl, rfl⟩
                  · rw [if_neg b686] at hf
                    refine ab_U.run 3 (S' := (142, [some (.ref 232), some (.int q1.1)], [.int 3, .int (q684.2.1 232 19)], hp X G q684.2)) rfl ?_
                    refine ab_U.ic_eq rfl (fun b689 => ?_) (fun b689 => ?_)
                    · rw [if_pos b689] at hf
                      refine ab_U.run 1 (S' := (151, [some (.ref 232), some (.int q1.1)], [.ref 232], hp X G q684.2)) rfl ?_
                      obtain ⟨q690, h691, hf⟩ := ab_bnd hf
                      refine ab_U.fn rfl rfl (t_X9_step (X := X) hG h691) (by omega) ?_
                      show ab_U _ _ _ (154, [some (.ref 232), some (.int q1.1)], [], hp X G q690.2) _
                      obtain rfl := Option.some.inj hf
                      exact ab_U.ret rfl rfl ⟨rfl, rfl⟩
                    · rw [if_neg b689] at hf
                      refine ab_U.run 2 (S' := (147, [some (.ref 232), some (.int q1.1)], [.int 2, .ref 232], hp X G q684.2)) rfl ?_
                      obtain ⟨q692, h693, hf⟩ := ab_bnd hf
                      refine ab_U.fn rfl rfl (t_X9_fails (X := X) hG h693) (by omega) ?_
                      show ab_U _ _ _ (150, [some (.ref 232), some (.int q1.1)], [], hp X G q692.2) _
                      refine ab_U.run 1 (S' := (151, [some (.ref 232), some (.int q1.1)], [.ref 232], hp X G q692.2)) rfl ?_
                      obtain ⟨q694, h695, hf⟩ := ab_bnd hf
                      refine ab_U.fn rfl rfl (t_X9_step (X := X) hG h695) (by omega) ?_
                      show ab_U _ _ _ (154, [some (.ref 232), some (.int q1.1)], [], hp X G q694.2) _
                      obtain rfl := Option.some.inj hf
                      exact ab_U.ret rfl rfl ⟨rfl, rfl⟩
                · rw [if_neg b683] at hf
                  obtain rfl := Option.some.inj hf
                  exact ab_U.ret rfl rfl ⟨rfl, rfl⟩
              · rw [if_neg b678] at hf
                refine ab_U.run 2 (S' := (98, [some (.ref 232), some (.int q1.1)], [.int 4, .ref 232], hp X G q658.2)) rfl ?_
                obtain ⟨q696, h697, hf⟩ := ab_bnd hf
                refine ab_U.fn rfl rfl (t_X9_fails (X := X) hG h697) (by omega) ?_
                show ab_U _ _ _ (101, [some (.ref 232), some (.int q1.1)], [], hp X G q696.2) _
                refine ab_U.run 7 (S' := (110, [some (.ref 232), some (.int q1.1)], [.int ((q696.2.1 232 9) ||| (1 <<< (q1.1 &&& 31))), .ref 232], hp X G q696.2)) rfl ?_
                obtain ⟨m698, e699, hf⟩ := ab_bnd hf
                have e699 := Option.some.inj e699
                refine ab_U.pfI (ci := 9) (k9 := 9) rfl ⟨by decide, rfl⟩ ⟨rfl, rfl, by decide, rfl⟩ rfl ?_
                show ab_U _ _ _ (113, [some (.ref 232), some (.int q1.1)], [], hp X G (fm_sI q696.2 232 9 ((q696.2.1 232 9) ||| (1 <<< (q1.1 &&& 31))))) _
                rw [e699]
                refine ab_U.run 1 (S' := (114, [some (.ref 232), some (.int q1.1)], [.ref 232], hp X G m698)) rfl ?_
                obtain ⟨q700, h701, hf⟩ := ab_bnd hf
                refine ab_U.fn rfl rfl (t_X9_step (X := X) hG h701) (by omega) ?_
                show ab_U _ _ _ (117, [some (.ref 232), some (.int q1.1)], [], hp X G q700.2) _
                refine ab_U.run 2 (S' := (121, [some (.ref 232), some (.int q1.1)], [.int (q700.2.1 232 15)], hp X G q700.2)) rfl ?_
                refine ab_U.if_le rfl (fun b702 => ?_) (fun b702 => ?_)
                · rw [if_pos b702] at hf
                  refine ab_U.run 2 (S' := (127, [some (.ref 232), some (.int q1.1)], [.int q1.1, .ref 232], hp X G q700.2)) rfl ?_
                  obtain ⟨q703, h704, hf⟩ := ab_bnd hf
                  refine ab_U.fn rfl rfl (t_X9_readMore (X := X) hG h704) (by omega) ?_
                  show ab_U _ _ _ (130, [some (.ref 232), some (.int q1.1)], [], hp X G q703.2) _
                  refine ab_U.run 2 (S' := (134, [some (.ref 232), some (.int q1.1)], [.int (q703.2.1 232 15)], hp X G q703.2)) rfl ?_
                  refine ab_U.if_ne rfl (fun b705 => ?_) (fun b705 => ?_)
                  · rw [if_pos b705] at hf
                    refine ab_U.run 1 (S' := (151, [some (.ref 232), some (.int q1.1)], [.ref 232], hp X G q703.2)) rfl ?_
                    obtain ⟨q706, h707, hf⟩ := ab_bnd hf
                    refine ab_U.fn rfl rfl (t_X9_step (X := X) hG h707) (by omega) ?_
                    show ab_U _ _ _ (154, [some (.ref 232), some (.int q1.1)], [], hp X G q706.2) _
                    obtain rfl := Option.some.inj hf
                    exact ab_U.ret rfl rfl ⟨rfl, rfl⟩
                  · rw [if_neg b705] at hf
                    refine ab_U.run 3 (S' := (142, [some (.ref 232), some (.int q1.1)], [.int 3, .int (q703.2.1 232 19)], hp X G q703.2)) rfl ?_
                    refine ab_U.ic_eq rfl (fun b708 => ?_) (fun b708 => ?_)
                    · rw [if_pos b708] at hf
                      refine ab_U.run 1 (S' := (151, [some (.ref 232), some (.int q1.1)], [.ref 232], hp X G q703.2)) rfl ?_
                      obtain ⟨q709, h710, hf⟩ := ab_bnd hf
                      refine ab_U.fn rfl rfl (t_X9_step (X := X) hG h710) (by omega) ?_
                      show ab_U _ _ _ (154, [some (.ref 232), some (.int q1.1)], [], hp X G q709.2) _
                      obtain rfl := Option.some.inj hf
                      exact ab_U.ret rfl rfl ⟨rfl, rfl⟩
                    · rw [if_neg b708] at hf
                      refine ab_U.run 2 (S' := (147, [some (.ref 232), some (.int q1.1)], [.int 2, .ref 232], hp X G q703.2)) rfl ?_
                      obtain ⟨q711, h712, hf⟩ := ab_bnd hf
                      refine ab_U.fn rfl rfl (t_X9_fails (X := X) hG h712) (by omega) ?_
                      show ab_U _ _ _ (150, [some (.ref 232), some (.int q1.1)], [], hp X G q711.2) _
                      refine ab_U.run 1 (S' := (151, [some (.ref 232), some (.int q1.1)], [.ref 232], hp X G q711.2)) rfl ?_
                      obtain ⟨q713, h714, hf⟩ := ab_bnd hf
                      refine ab_U.fn rfl rfl (t_X9_step (X := X) hG h714) (by omega) ?_
                      show ab_U _ _ _ (154, [some (.ref 232), some (.int q1.1)], [], hp X G q713.2) _
                      obtain rfl := Option.some.inj hf
                      exact ab_U.ret rfl rfl ⟨rfl, rfl⟩
                · rw [if_neg b702] at hf
                  obtain rfl := Option.some.inj hf
                  exact ab_U.ret rfl rfl ⟨rfl, rfl⟩
          · rw [if_neg b655] at hf
            refine ab_U.run 2 (S' := (54, [some (.ref 232), some (.int q1.1)], [.int 5, .int q1.1], hp X G q3.2)) rfl ?_
            refine ab_U.ic_ne rfl (fun b715 => ?_) (fun b715 => ?_)
            · rw [if_pos b715] at hf
              refine ab_U.run 4 (S' := (78, [some (.ref 232), some (.int q1.1)], [.long (Int64.ofNat 7), .long (Int64.ofNat 6), .long (q1.1).toInt64], hp X G q3.2)) rfl ?_
              obtain ⟨q716, h717, hf⟩ := ab_bnd hf
              refine ab_U.fn rfl rfl (t_X9_in (X := X) hG h717) (by omega) ?_
              show ab_U _ _ _ (81, [some (.ref 232), some (.int q1.1)], [.int q716.1], hp X G q716.2) _
              refine ab_U.if_eq rfl (fun b718 => ?_) (fun b718 => ?_)
              · rw [if_pos b718] at hf
                refine ab_U.run 7 (S' := (110, [some (.ref 232), some (.int q1.1)], [.int ((q716.2.1 232 9) ||| (1 <<< (q1.1 &&& 31))), .ref 232], hp X G q716.2)) rfl ?_
                obtain ⟨m719, e720, hf⟩ := ab_bnd hf
                have e720 := Option.some.inj e720
                refine ab_U.pfI (ci := 9) (k9 := 9) rfl ⟨by decide, rfl⟩ ⟨rfl, rfl, by decide, rfl⟩ rfl ?_
                show ab_U _ _ _ (113, [some (.ref 232), some (.int q1.1)], [], hp X G (fm_sI q716.2 232 9 ((q716.2.1 232 9) ||| (1 <<< (q1.1 &&& 31))))) _
                rw [e720]
                refine ab_U.run 1 (S' := (114, [some (.ref 232), some (.int q1.1)], [.ref 232], hp X G m719)) rfl ?_
                obtain ⟨q721, h722, hf⟩ := ab_bnd hf
                refine ab_U.fn rfl rfl (t_X9_step (X := X) hG h722) (by omega) ?_
                show ab_U _ _ _ (117, [some (.ref 232), some (.int q1.1)], [], hp X G q721.2) _
                refine ab_U.run 2 (S' := (121, [some (.ref 232), some (.int q1.1)], [.int (q721.2.1 232 15)], hp X G q721.2)) rfl ?_
                refine ab_U.if_le rfl (fun b723 => ?_) (fun b723 => ?_)
                · rw [if_pos b723] at hf
                  refine ab_U.run 2 (S' := (127, [some (.ref 232), some (.int q1.1)], [.int q1.1, .ref 232], hp X G q721.2)) rfl ?_
                  obtain ⟨q724, h725, hf⟩ := ab_bnd hf
                  refine ab_U.fn rfl rfl (t_X9_readMore (X := X) hG h725) (by omega) ?_
                  show ab_U _ _ _ (130, [some (.ref 232), some (.int q1.1)], [], hp X G q724.2) _
                  refine ab_U.run 2 (S' := (134, [some (.ref 232), some (.int q1.1)], [.int (q724.2.1 232 15)], hp X G q724.2)) rfl ?_
                  refine ab_U.if_ne rfl (fun b726 => ?_) (fun b726 => ?_)
                  · rw [if_pos b726] at hf
                    refine ab_U.run 1 (S' := (151, [some (.ref 232), some (.int q1.1)], [.ref 232], hp X G q724.2)) rfl ?_
                    obtain ⟨q727, h728, hf⟩ := ab_bnd hf
                    refine ab_U.fn rfl rfl (t_X9_step (X := X) hG h728) (by omega) ?_
                    show ab_U _ _ _ (154, [some (.ref 232), some (.int q1.1)], [], hp X G q727.2) _
                    obtain rfl := Option.some.inj hf
                    exact ab_U.ret rfl rfl ⟨rfl, rfl⟩
                  · rw [if_neg b726] at hf
                    refine ab_U.run 3 (S' := (142, [some (.ref 232), some (.int q1.1)], [.int 3, .int (q724.2.1 232 19)], hp X G q724.2)) rfl ?_
                    refine ab_U.ic_eq rfl (fun b729 => ?_) (fun b729 => ?_)
                    · rw [if_pos b729] at hf
                      refine ab_U.run 1 (S' := (151, [some (.ref 232), some (.int q1.1)], [.ref 232], hp X G q724.2)) rfl ?_
                      obtain ⟨q730, h731, hf⟩ := ab_bnd hf
                      refine ab_U.fn rfl rfl (t_X9_step (X := X) hG h731) (by omega) ?_
                      show ab_U _ _ _ (154, [some (.ref 232), some (.int q1.1)], [], hp X G q730.2) _
                      obtain rfl := Option.some.inj hf
                      exact ab_U.ret rfl rfl ⟨rfl, rfl⟩
                    · rw [if_neg b729] at hf
                      refine ab_U.run 2 (S' := (147, [some (.ref 232), some (.int q1.1)], [.int 2, .ref 232], hp X G q724.2)) rfl ?_
                      obtain ⟨q732, h733, hf⟩ := ab_bnd hf
                      refine ab_U.fn rfl rfl (t_X9_fails (X := X) hG h733) (by omega) ?_
                      show ab_U _ _ _ (150, [some (.ref 232), some (.int q1.1)], [], hp X G q732.2) _
                      refine ab_U.run 1 (S' := (151, [some (.ref 232), some (.int q1.1)], [.ref 232], hp X G q732.2)) rfl ?_
                      obtain ⟨q734, h735, hf⟩ := ab_bnd hf
                      refine ab_U.fn rfl rfl (t_X9_step (X := X) hG h735) (by omega) ?_
                      show ab_U _ _ _ (154, [some (.ref 232), some (.int q1.1)], [], hp X G q734.2) _
                      obtain rfl := Option.some.inj hf
                      exact ab_U.ret rfl rfl ⟨rfl, rfl⟩
                · rw [if_neg b723] at hf
                  obtain rfl := Option.some.inj hf
                  exact ab_U.ret rfl rfl ⟨rfl, rfl⟩
              · rw [if_neg b718] at hf
                refine ab_U.run 7 (S' := (93, [some (.ref 232), some (.int q1.1)], [.int 1, .int (((q716.2.1 232 9) >>> (q1.1 &&& 31)) &&& 1)], hp X G q716.2)) rfl ?_
                refine ab_U.ic_ne rfl (fun b736 => ?_) (fun b736 => ?_)
                · rw [if_pos b736] at hf
                  refine ab_U.run 7 (S' := (110, [some (.ref 232), some (.int q1.1)], [.int ((q716.2.1 232 9) ||| (1 <<< (q1.1 &&& 31))), .ref 232], hp X G q716.2)) rfl ?_
                  obtain ⟨m737, e738, hf⟩ := ab_bnd hf
                  have e738 := Option.some.inj e738
                  refine ab_U.pfI (ci := 9) (k9 := 9) rfl ⟨by decide, rfl⟩ ⟨rfl, rfl, by decide, rfl⟩ rfl ?_
                  show ab_U _ _ _ (113, [some (.ref 232), some (.int q1.1)], [], hp X G (fm_sI q716.2 232 9 ((q716.2.1 232 9) ||| (1 <<< (q1.1 &&& 31))))) _
                  rw [e738]
                  refine ab_U.run 1 (S' := (114, [some (.ref 232), some (.int q1.1)], [.ref 232], hp X G m737)) rfl ?_
                  obtain ⟨q739, h740, hf⟩ := ab_bnd hf
                  refine ab_U.fn rfl rfl (t_X9_step (X := X) hG h740) (by omega) ?_
                  show ab_U _ _ _ (117, [some (.ref 232), some (.int q1.1)], [], hp X G q739.2) _
                  refine ab_U.run 2 (S' := (121, [some (.ref 232), some (.int q1.1)], [.int (q739.2.1 232 15)], hp X G q739.2)) rfl ?_
                  refine ab_U.if_le rfl (fun b741 => ?_) (fun b741 => ?_)
                  · rw [if_pos b741] at hf
                    refine ab_U.run 2 (S' := (127, [some (.ref 232), some (.int q1.1)], [.int q1.1, .ref 232], hp X G q739.2)) rfl ?_
                    obtain ⟨q742, h743, hf⟩ := ab_bnd hf
                    refine ab_U.fn rfl rfl (t_X9_readMore (X := X) hG h743) (by omega) ?_
                    show ab_U _ _ _ (130, [some (.ref 232), some (.int q1.1)], [], hp X G q742.2) _
                    refine ab_U.run 2 (S' := (134, [some (.ref 232), some (.int q1.1)], [.int (q742.2.1 232 15)], hp X G q742.2)) rfl ?_
                    refine ab_U.if_ne rfl (fun b744 => ?_) (fun b744 => ?_)
                    · rw [if_pos b744] at hf
                      refine ab_U.run 1 (S' := (151, [some (.ref 232), some (.int q1.1)], [.ref 232], hp X G q742.2)) rfl ?_
                      obtain ⟨q745, h746, hf⟩ := ab_bnd hf
                      refine ab_U.fn rfl rfl (t_X9_step (X := X) hG h746) (by omega) ?_
                      show ab_U _ _ _ (154, [some (.ref 232), some (.int q1.1)], [], hp X G q745.2) _
                      obtain rfl := Option.some.inj hf
                      exact ab_U.ret rfl rfl ⟨rfl, rfl⟩
                    · rw [if_neg b744] at hf
                      refine ab_U.run 3 (S' := (142, [some (.ref 232), some (.int q1.1)], [.int 3, .int (q742.2.1 232 19)], hp X G q742.2)) rfl ?_
                      refine ab_U.ic_eq rfl (fun b747 => ?_) (fun b747 => ?_)
                      · rw [if_pos b747] at hf
                        refine ab_U.run 1 (S' := (151, [some (.ref 232), some (.int q1.1)], [.ref 232], hp X G q742.2)) rfl ?_
                        obtain ⟨q748, h749, hf⟩ := ab_bnd hf
                        refine ab_U.fn rfl rfl (t_X9_step (X := X) hG h749) (by omega) ?_
                        show ab_U _ _ _ (154, [some (.ref 232), some (.int q1.1)], [], hp X G q748.2) _
                        obtain rfl := Option.some.inj hf
                        exact ab_U.ret rfl rfl ⟨rfl, rfl⟩
                      · rw [if_neg b747] at hf
                        refine ab_U.run 2 (S' := (147, [some (.ref 232), some (.int q1.1)], [.int 2, .ref 232], hp X G q742.2)) rfl ?_
                        obtain ⟨q750, h751, hf⟩ := ab_bnd hf
                        refine ab_U.fn rfl rfl (t_X9_fails (X := X) hG h751) (by omega) ?_
                        show ab_U _ _ _ (150, [some (.ref 232), some (.int q1.1)], [], hp X G q750.2) _
                        refine ab_U.run 1 (S' := (151, [some (.ref 232), some (.int q1.1)], [.ref 232], hp X G q750.2)) rfl ?_
                        obtain ⟨q752, h753, hf⟩ := ab_bnd hf
                        refine ab_U.fn rfl rfl (t_X9_step (X := X) hG h753) (by omega) ?_
                        show ab_U _ _ _ (154, [some (.ref 232), some (.int q1.1)], [], hp X G q752.2) _
                        obtain rfl := Option.some.inj hf
                        exact ab_U.ret rfl rfl ⟨rfl, rfl⟩
                  · rw [if_neg b741] at hf
                    obtain rfl := Option.some.inj hf
                    exact ab_U.ret rfl rfl ⟨rfl, rfl⟩
                · rw [if_neg b736] at hf
                  refine ab_U.run 2 (S' := (98, [some (.ref 232), some (.int q1.1)], [.int 4, .ref 232], hp X G q716.2)) rfl ?_
                  obtain ⟨q754, h755, hf⟩ := ab_bnd hf
                  refine ab_U.fn rfl rfl (t_X9_fails (X := X) hG h755) (by omega) ?_
                  show ab_U _ _ _ (101, [some (.ref 232), some (.int q1.1)], [], hp X G q754.2) _
                  refine ab_U.run 7 (S' := (110, [some (.ref 232), some (.int q1.1)], [.int ((q754.2.1 232 9) ||| (1 <<< (q1.1 &&& 31))), .ref 232], hp X G q754.2)) rfl ?_
                  obtain ⟨m756, e757, hf⟩ := ab_bnd hf
                  have e757 := Option.some.inj e757
                  refine ab_U.pfI (ci := 9) (k9 := 9) rfl ⟨by decide, rfl⟩ ⟨rfl, rfl, by decide, rfl⟩ rfl ?_
                  show ab_U _ _ _ (113, [some (.ref 232), some (.int q1.1)], [], hp X G (fm_sI q754.2 232 9 ((q754.2.1 232 9) ||| (1 <<< (q1.1 &&& 31))))) _
                  rw [e757]
                  refine ab_U.run 1 (S' := (114, [some (.ref 232), some (.int q1.1)], [.ref 232], hp X G m756)) rfl ?_
                  obtain ⟨q758, h759, hf⟩ := ab_bnd hf
                  refine ab_U.fn rfl rfl (t_X9_step (X := X) hG h759) (by omega) ?_
                  show ab_U _ _ _ (117, [some (.ref 232), some (.int q1.1)], [], hp X G q758.2) _
                  refine ab_U.run 2 (S' := (121, [some (.ref 232), some (.int q1.1)], [.int (q758.2.1 232 15)], hp X G q758.2)) rfl ?_
                  refine ab_U.if_le rfl (fun b760 => ?_) (fun b760 => ?_)
                  · rw [if_pos b760] at hf
                    refine ab_U.run 2 (S' := (127, [some (.ref 232), some (.int q1.1)], [.int q1.1, .ref 232], hp X G q758.2)) rfl ?_
                    obtain ⟨q761, h762, hf⟩ := ab_bnd hf
                    refine ab_U.fn rfl rfl (t_X9_readMore (X := X) hG h762) (by omega) ?_
                    show ab_U _ _ _ (130, [some (.ref 232), some (.int q1.1)], [], hp X G q761.2) _
                    refine ab_U.run 2 (S' := (134, [some (.ref 232), some (.int q1.1)], [.int (q761.2.1 232 15)], hp X G q761.2)) rfl ?_
                    refine ab_U.if_ne rfl (fun b763 => ?_) (fun b763 => ?_)
                    · rw [if_pos b763] at hf
                      refine ab_U.run 1 (S' := (151, [some (.ref 232), some (.int q1.1)], [.ref 232], hp X G q761.2)) rfl ?_
                      obtain ⟨q764, h765, hf⟩ := ab_bnd hf
                      refine ab_U.fn rfl rfl (t_X9_step (X := X) hG h765) (by omega) ?_
                      show ab_U _ _ _ (154, [some (.ref 232), some (.int q1.1)], [], hp X G q764.2) _
                      obtain rfl := Option.some.inj hf
                      exact ab_U.ret rfl rfl ⟨rfl, rfl⟩
                    · rw [if_neg b763] at hf
                      refine ab_U.run 3 (S' := (142, [some (.ref 232), some (.int q1.1)], [.int 3, .int (q761.2.1 232 19)], hp X G q761.2)) rfl ?_
                      refine ab_U.ic_eq rfl (fun b766 => ?_) (fun b766 => ?_)
                      · rw [if_pos b766] at hf
                        refine ab_U.run 1 (S' := (151, [some (.ref 232), some (.int q1.1)], [.ref 232], hp X G q761.2)) rfl ?_
                        obtain ⟨q767, h768, hf⟩ := ab_bnd hf
                        refine ab_U.fn rfl rfl (t_X9_step (X := X) hG h768) (by omega) ?_
                        show ab_U _ _ _ (154, [some (.ref 232), some (.int q1.1)], [], hp X G q767.2) _
                        obtain rfl := Option.some.inj hf
                        exact ab_U.ret rfl rfl ⟨rfl, rfl⟩
                      · rw [if_neg b766] at hf
                        refine ab_U.run 2 (S' := (147, [some (.ref 232), some (.int q1.1)], [.int 2, .ref 232], hp X G q761.2)) rfl ?_
                        obtain ⟨q769, h770, hf⟩ := ab_bnd hf
                        refine ab_U.fn rfl rfl (t_X9_fails (X := X) hG h770) (by omega) ?_
                        show ab_U _ _ _ (150, [some (.ref 232), some (.int q1.1)], [], hp X G q769.2) _
                        refine ab_U.run 1 (S' := (151, [some (.ref 232), some (.int q1.1)], [.ref 232], hp X G q769.2)) rfl ?_
                        obtain ⟨q771, h772, hf⟩ := ab_bnd hf
                        refine ab_U.fn rfl rfl (t_X9_step (X := X) hG h772) (by omega) ?_
                        show ab_U _ _ _ (154, [some (.ref 232), some (.int q1.1)], [], hp X G q771.2) _
                        obtain rfl := Option.some.inj hf
                        exact ab_U.ret rfl rfl ⟨rfl, rfl⟩
                  · rw [if_neg b760] at hf
                    obtain rfl := Option.some.inj hf
                    exact ab_U.ret rfl rfl ⟨rfl, rfl⟩
            · rw [if_neg b715] at hf
              refine ab_U.run 3 (S' := (62, [some (.ref 232), some (.int q1.1)], [.int 4, .int (q3.2.1 232 8)], hp X G q3.2)) rfl ?_
              refine ab_U.ic_ne rfl (fun b773 => ?_) (fun b773 => ?_)
              · rw [if_pos b773] at hf
                refine ab_U.run 4 (S' := (78, [some (.ref 232), some (.int q1.1)], [.long (Int64.ofNat 7), .long (Int64.ofNat 6), .long (q1.1).toInt64], hp X G q3.2)) rfl ?_
                obtain ⟨q774, h775, hf⟩ := ab_bnd hf
                refine ab_U.fn rfl rfl (t_X9_in (X := X) hG h775) (by omega) ?_
                show ab_U _ _ _ (81, [some (.ref 232), some (.int q1.1)], [.int q774.1], hp X G q774.2) _
                refine ab_U.if_eq rfl (fun b776 => ?_) (fun b776 => ?_)
                · rw [if_pos b776] at hf
                  refine ab_U.run 7 (S' := (110, [some (.ref 232), some (.int q1.1)], [.int ((q774.2.1 232 9) ||| (1 <<< (q1.1 &&& 31))), .ref 232], hp X G q774.2)) rfl ?_
                  obtain ⟨m777, e778, hf⟩ := ab_bnd hf
                  have e778 := Option.some.inj e778
                  refine ab_U.pfI (ci := 9) (k9 := 9) rfl ⟨by decide, rfl⟩ ⟨rfl, rfl, by decide, rfl⟩ rfl ?_
                  show ab_U _ _ _ (113, [some (.ref 232), some (.int q1.1)], [], hp X G (fm_sI q774.2 232 9 ((q774.2.1 232 9) ||| (1 <<< (q1.1 &&& 31))))) _
                  rw [e778]
                  refine ab_U.run 1 (S' := (114, [some (.ref 232), some (.int q1.1)], [.ref 232], hp X G m777)) rfl ?_
                  obtain ⟨q779, h780, hf⟩ := ab_bnd hf
                  refine ab_U.fn rfl rfl (t_X9_step (X := X) hG h780) (by omega) ?_
                  show ab_U _ _ _ (117, [some (.ref 232), some (.int q1.1)], [], hp X G q779.2) _
                  refine ab_U.run 2 (S' := (121, [some (.ref 232), some (.int q1.1)], [.int (q779.2.1 232 15)], hp X G q779.2)) rfl ?_
                  refine ab_U.if_le rfl (fun b781 => ?_) (fun b781 => ?_)
                  · rw [if_pos b781] at hf
                    refine ab_U.run 2 (S' := (127, [some (.ref 232), some (.int q1.1)], [.int q1.1, .ref 232], hp X G q779.2)) rfl ?_
                    obtain ⟨q782, h783, hf⟩ := ab_bnd hf
                    refine ab_U.fn rfl rfl (t_X9_readMore (X := X) hG h783) (by omega) ?_
                    show ab_U _ _ _ (130, [some (.ref 232), some (.int q1.1)], [], hp X G q782.2) _
                    refine ab_U.run 2 (S' := (134, [some (.ref 232), some (.int q1.1)], [.int (q782.2.1 232 15)], hp X G q782.2)) rfl ?_
                    refine ab_U.if_ne rfl (fun b784 => ?_) (fun b784 => ?_)
                    · rw [if_pos b784] at hf
                      refine ab_U.run 1 (S' := (151, [some (.ref 232), some (.int q1.1)], [.ref 232], hp X G q782.2)) rfl ?_
                      obtain ⟨q785, h786, hf⟩ := ab_bnd hf
                      refine ab_U.fn rfl rfl (t_X9_step (X := X) hG h786) (by omega) ?_
                      show ab_U _ _ _ (154, [some (.ref 232), some (.int q1.1)], [], hp X G q785.2) _
                      obtain rfl := Option.some.inj hf
                      exact ab_U.ret rfl rfl ⟨rfl, rfl⟩
                    · rw [if_neg b784] at hf
                      refine ab_U.run 3 (S' := (142, [some (.ref 232), some (.int q1.1)], [.int 3, .int (q782.2.1 232 19)], hp X G q782.2)) rfl ?_
                      refine ab_U.ic_eq rfl (fun b787 => ?_) (fun b787 => ?_)
                      · rw [if_pos b787] at hf
                        refine ab_U.run 1 (S' := (151, [some (.ref 232), some (.int q1.1)], [.ref 232], hp X G q782.2)) rfl ?_
                        obtain ⟨q788, h789, hf⟩ := ab_bnd hf
                        refine ab_U.fn rfl rfl (t_X9_step (X := X) hG h789) (by omega) ?_
                        show ab_U _ _ _ (154, [some (.ref 232), some (.int q1.1)], [], hp X G q788.2) _
                        obtain rfl := Option.some.inj hf
                        exact ab_U.ret rfl rfl ⟨rfl, rfl⟩
                      · rw [if_neg b787] at hf
                        refine ab_U.run 2 (S' := (147, [some (.ref 232), some (.int q1.1)], [.int 2, .ref 232], hp X G q782.2)) rfl ?_
                        obtain ⟨q790, h791, hf⟩ := ab_bnd hf
                        refine ab_U.fn rfl rfl (t_X9_fails (X := X) hG h791) (by omega) ?_
                        show ab_U _ _ _ (150, [some (.ref 232), some (.int q1.1)], [], hp X G q790.2) _
                        refine ab_U.run 1 (S' := (151, [some (.ref 232), some (.int q1.1)], [.ref 232], hp X G q790.2)) rfl ?_
                        obtain ⟨q792, h793, hf⟩ := ab_bnd hf
                        refine ab_U.fn rfl rfl (t_X9_step (X := X) hG h793) (by omega) ?_
                        show ab_U _ _ _ (154, [some (.ref 232), some (.int q1.1)], [], hp X G q792.2) _
                        obtain rfl := Option.some.inj hf
                        exact ab_U.ret rfl rfl ⟨rfl, rfl⟩
                  · rw [if_neg b781] at hf
                    obtain rfl := Option.some.inj hf
                    exact ab_U.ret rfl rfl ⟨rfl, rfl⟩
                · rw [if_neg b776] at hf
                  refine ab_U.run 7 (S' := (93, [some (.ref 232), some (.int q1.1)], [.int 1, .int (((q774.2.1 232 9) >>> (q1.1 &&& 31)) &&& 1)], hp X G q774.2)) rfl ?_
                  refine ab_U.ic_ne rfl (fun b794 => ?_) (fun b794 => ?_)
                  · rw [if_pos b794] at hf
                    refine ab_U.run 7 (S' := (110, [some (.ref 232), some (.int q1.1)], [.int ((q774.2.1 232 9) ||| (1 <<< (q1.1 &&& 31))), .ref 232], hp X G q774.2)) rfl ?_
                    obtain ⟨m795, e796, hf⟩ := ab_bnd hf
                    have e796 := Option.some.inj e796
                    refine ab_U.pfI (ci := 9) (k9 := 9) rfl ⟨by decide, rfl⟩ ⟨rfl, rfl, by decide, rfl⟩ rfl ?_
                    show ab_U _ _ _ (113, [some (.ref 232), some (.int q1.1)], [], hp X G (fm_sI q774.2 232 9 ((q774.2.1 232 9) ||| (1 <<< (q1.1 &&& 31))))) _
                    rw [e796]
                    refine ab_U.run 1 (S' := (114, [some (.ref 232), some (.int q1.1)], [.ref 232], hp X G m795)) rfl ?_
                    obtain ⟨q797, h798, hf⟩ := ab_bnd hf
                    refine ab_U.fn rfl rfl (t_X9_step (X := X) hG h798) (by omega) ?_
                    show ab_U _ _ _ (117, [some (.ref 232), some (.int q1.1)], [], hp X G q797.2) _
                    refine ab_U.run 2 (S' := (121, [some (.ref 232), some (.int q1.1)], [.int (q797.2.1 232 15)], hp X G q797.2)) rfl ?_
                    refine ab_U.if_le rfl (fun b799 => ?_) (fun b799 => ?_)
                    · rw [if_pos b799] at hf
                      refine ab_U.run 2 (S' := (127, [some (.ref 232), some (.int q1.1)], [.int q1.1, .ref 232], hp X G q797.2)) rfl ?_
                      obtain ⟨q800, h801, hf⟩ := ab_bnd hf
                      refine ab_U.fn rfl rfl (t_X9_readMore (X := X) hG h801) (by omega) ?_
                      show ab_U _ _ _ (130, [some (.ref 232), some (.int q1.1)], [], hp X G q800.2) _
                      refine ab_U.run 2 (S' := (134, [some (.ref 232), some (.int q1.1)], [.int (q800.2.1 232 15)], hp X G q800.2)) rfl ?_
                      refine ab_U.if_ne rfl (fun b802 => ?_) (fun b802 => ?_)
                      · rw [if_pos b802] at hf
                        refine ab_U.run 1 (S' := (151, [some (.ref 232), some (.int q1.1)], [.ref 232], hp X G q800.2)) rfl ?_
                        obtain ⟨q803, h804, hf⟩ := ab_bnd hf
                        refine ab_U.fn rfl rfl (t_X9_step (X := X) hG h804) (by omega) ?_
                        show ab_U _ _ _ (154, [some (.ref 232), some (.int q1.1)], [], hp X G q803.2) _
                        obtain rfl := Option.some.inj hf
                        exact ab_U.ret rfl rfl ⟨rfl, rfl⟩
                      · rw [if_neg b802] at hf
                        refine ab_U.run 3 (S' := (142, [some (.ref 232), some (.int q1.1)], [.int 3, .int (q800.2.1 232 19)], hp X G q800.2)) rfl ?_
                        refine ab_U.ic_eq rfl (fun b805 => ?_) (fun b805 => ?_)
                        · rw [if_pos b805] at hf
                          refine ab_U.run 1 (S' := (151, [some (.ref 232), some (.int q1.1)], [.ref 232], hp X G q800.2)) rfl ?_
                          obtain ⟨q806, h807, hf⟩ := ab_bnd hf
                          refine ab_U.fn rfl rfl (t_X9_step (X := X) hG h807) (by omega) ?_
                          show ab_U _ _ _ (154, [some (.ref 232), some (.int q1.1)], [], hp X G q806.2) _
                          obtain rfl := Option.some.inj hf
                          exact ab_U.ret rfl rfl ⟨rfl, rfl⟩
                        · rw [if_neg b805] at hf
                          refine ab_U.run 2 (S' := (147, [some (.ref 232), some (.int q1.1)], [.int 2, .ref 232], hp X G q800.2)) rfl ?_
                          obtain ⟨q808, h809, hf⟩ := ab_bnd hf
                          refine ab_U.fn rfl rfl (t_X9_fails (X := X) hG h809) (by omega) ?_
                          show ab_U _ _ _ (150, [some (.ref 232), some (.int q1.1)], [], hp X G q808.2) _
                          refine ab_U.run 1 (S' := (151, [some (.ref 232), some (.int q1.1)], [.ref 232], hp X G q808.2)) rfl ?_
                          obtain ⟨q810, h811, hf⟩ := ab_bnd hf
                          refine ab_U.fn rfl rfl (t_X9_step (X := X) hG h811) (by omega) ?_
                          show ab_U _ _ _ (154, [some (.ref 232), some (.int q1.1)], [], hp X G q810.2) _
                          obtain rfl := Option.some.inj hf
                          exact ab_U.ret rfl rfl ⟨rfl, rfl⟩
                    · rw [if_neg b799] at hf
                      obtain rfl := Option.some.inj hf
                      exact ab_U.ret rfl rfl ⟨rfl, rfl⟩
                  · rw [if_neg b794] at hf
                    refine ab_U.run 2 (S' := (98, [some (.ref 232), some (.int q1.1)], [.int 4, .ref 232], hp X G q774.2)) rfl ?_
                    obtain ⟨q812, h813, hf⟩ := ab_bnd hf
                    refine ab_U.fn rfl rfl (t_X9_fails (X := X) hG h813) (by omega) ?_
                    show ab_U _ _ _ (101, [some (.ref 232), some (.int q1.1)], [], hp X G q812.2) _
                    refine ab_U.run 7 (S' := (110, [some (.ref 232), some (.int q1.1)], [.int ((q812.2.1 232 9) ||| (1 <<< (q1.1 &&& 31))), .ref 232], hp X G q812.2)) rfl ?_
                    obtain ⟨m814, e815, hf⟩ := ab_bnd hf
                    have e815 := Option.some.inj e815
                    refine ab_U.pfI (ci := 9) (k9 := 9) rfl ⟨by decide, rfl⟩ ⟨rfl, rfl, by decide, rfl⟩ rfl ?_
                    show ab_U _ _ _ (113, [some (.ref 232), some (.int q1.1)], [], hp X G (fm_sI q812.2 232 9 ((q812.2.1 232 9) ||| (1 <<< (q1.1 &&& 31))))) _
                    rw [e815]
                    refine ab_U.run 1 (S' := (114, [some (.ref 232), some (.int q1.1)], [.ref 232], hp X G m814)) rfl ?_
                    obtain ⟨q816, h817, hf⟩ := ab_bnd hf
                    refine ab_U.fn rfl rfl (t_X9_step (X := X) hG h817) (by omega) ?_
                    show ab_U _ _ _ (117, [some (.ref 232), some (.int q1.1)], [], hp X G q816.2) _
                    refine ab_U.run 2 (S' := (121, [some (.ref 232), some (.int q1.1)], [.int (q816.2.1 232 15)], hp X G q816.2)) rfl ?_
                    refine ab_U.if_le rfl (fun b818 => ?_) (fun b818 => ?_)
                    · rw [if_pos b818] at hf
                      refine ab_U.run 2 (S' := (127, [some (.ref 232), some (.int q1.1)], [.int q1.1, .ref 232], hp X G q816.2)) rfl ?_
                      obtain ⟨q819, h820, hf⟩ := ab_bnd hf
                      refine ab_U.fn rfl rfl (t_X9_readMore (X := X) hG h820) (by omega) ?_
                      show ab_U _ _ _ (130, [some (.ref 232), some (.int q1.1)], [], hp X G q819.2) _
                      refine ab_U.run 2 (S' := (134, [some (.ref 232), some (.int q1.1)], [.int (q819.2.1 232 15)], hp X G q819.2)) rfl ?_
                      refine ab_U.if_ne rfl (fun b821 => ?_) (fun b821 => ?_)
                      · rw [if_pos b821] at hf
                        refine ab_U.run 1 (S' := (151, [some (.ref 232), some (.int q1.1)], [.ref 232], hp X G q819.2)) rfl ?_
                        obtain ⟨q822, h823, hf⟩ := ab_bnd hf
                        refine ab_U.fn rfl rfl (t_X9_step (X := X) hG h823) (by omega) ?_
                        show ab_U _ _ _ (154, [some (.ref 232), some (.int q1.1)], [], hp X G q822.2) _
                        obtain rfl := Option.some.inj hf
                        exact ab_U.ret rfl rfl ⟨rfl, rfl⟩
                      · rw [if_neg b821] at hf
                        refine ab_U.run 3 (S' := (142, [some (.ref 232), some (.int q1.1)], [.int 3, .int (q819.2.1 232 19)], hp X G q819.2)) rfl ?_
                        refine ab_U.ic_eq rfl (fun b824 => ?_) (fun b824 => ?_)
                        · rw [if_pos b824] at hf
                          refine ab_U.run 1 (S' := (151, [some (.ref 232), some (.int q1.1)], [.ref 232], hp X G q819.2)) rfl ?_
                          obtain ⟨q825, h826, hf⟩ := ab_bnd hf
                          refine ab_U.fn rfl rfl (t_X9_step (X := X) hG h826) (by omega) ?_
                          show ab_U _ _ _ (154, [some (.ref 232), some (.int q1.1)], [], hp X G q825.2) _
                          obtain rfl := Option.some.inj hf
                          exact ab_U.ret rfl rfl ⟨rfl, rfl⟩
                        · rw [if_neg b824] at hf
                          refine ab_U.run 2 (S' := (147, [some (.ref 232), some (.int q1.1)], [.int 2, .ref 232], hp X G q819.2)) rfl ?_
                          obtain ⟨q827, h828, hf⟩ := ab_bnd hf
                          refine ab_U.fn rfl rfl (t_X9_fails (X := X) hG h828) (by omega) ?_
                          show ab_U _ _ _ (150, [some (.ref 232), some (.int q1.1)], [], hp X G q827.2) _
                          refine ab_U.run 1 (S' := (151, [some (.ref 232), some (.int q1.1)], [.ref 232], hp X G q827.2)) rfl ?_
                          obtain ⟨q829, h830, hf⟩ := ab_bnd hf
                          refine ab_U.fn rfl rfl (t_X9_step (X := X) hG h830) (by omega) ?_
                          show ab_U _ _ _ (154, [some (.ref 232), some (.int q1.1)], [], hp X G q829.2) _
                          obtain rfl := Option.some.inj hf
                          exact ab_U.ret rfl rfl ⟨rfl, rfl⟩
                    · rw [if_neg b818] at hf
                      obtain rfl := Option.some.inj hf
                      exact ab_U.ret rfl rfl ⟨rfl, rfl⟩
              · rw [if_neg b773] at hf
                refine ab_U.run 2 (S' := (67, [some (.ref 232), some (.int q1.1)], [.int 5, .ref 232], hp X G q3.2)) rfl ?_
                obtain ⟨q831, h832, hf⟩ := ab_bnd hf
                refine ab_U.fn rfl rfl (t_X9_fails (X := X) hG h832) (by omega) ?_
                show ab_U _ _ _ (70, [some (.ref 232), some (.int q1.1)], [], hp X G q831.2) _
                refine ab_U.run 4 (S' := (78, [some (.ref 232), some (.int q1.1)], [.long (Int64.ofNat 7), .long (Int64.ofNat 6), .long (q1.1).toInt64], hp X G q831.2)) rfl ?_
                obtain ⟨q833, h834, hf⟩ := ab_bnd hf
                refine ab_U.fn rfl rfl (t_X9_in (X := X) hG h834) (by omega) ?_
                show ab_U _ _ _ (81, [some (.ref 232), some (.int q1.1)], [.int q833.1], hp X G q833.2) _
                refine ab_U.if_eq rfl (fun b835 => ?_) (fun b835 => ?_)
                · rw [if_pos b835] at hf
                  refine ab_U.run 7 (S' := (110, [some (.ref 232), some (.int q1.1)], [.int ((q833.2.1 232 9) ||| (1 <<< (q1.1 &&& 31))), .ref 232], hp X G q833.2)) rfl ?_
                  obtain ⟨m836, e837, hf⟩ := ab_bnd hf
                  have e837 := Option.some.inj e837
                  refine ab_U.pfI (ci := 9) (k9 := 9) rfl ⟨by decide, rfl⟩ ⟨rfl, rfl, by decide, rfl⟩ rfl ?_
                  show ab_U _ _ _ (113, [some (.ref 232), some (.int q1.1)], [], hp X G (fm_sI q833.2 232 9 ((q833.2.1 232 9) ||| (1 <<< (q1.1 &&& 31))))) _
                  rw [e837]
                  refine ab_U.run 1 (S' := (114, [some (.ref 232), some (.int q1.1)], [.ref 232], hp X G m836)) rfl ?_
                  obtain ⟨q838, h839, hf⟩ := ab_bnd hf
                  refine ab_U.fn rfl rfl (t_X9_step (X := X) hG h839) (by omega) ?_
                  show ab_U _ _ _ (117, [some (.ref 232), some (.int q1.1)], [], hp X G q838.2) _
                  refine ab_U.run 2 (S' := (121, [some (.ref 232), some (.int q1.1)], [.int (q838.2.1 232 15)], hp X G q838.2)) rfl ?_
                  refine ab_U.if_le rfl (fun b840 => ?_) (fun b840 => ?_)
                  · rw [if_pos b840] at hf
                    refine ab_U.run 2 (S' := (127, [some (.ref 232), some (.int q1.1)], [.int q1.1, .ref 232], hp X G q838.2)) rfl ?_
                    obtain ⟨q841, h842, hf⟩ := ab_bnd hf
                    refine ab_U.fn rfl rfl (t_X9_readMore (X := X) hG h842) (by omega) ?_
                    show ab_U _ _ _ (130, [some (.ref 232), some (.int q1.1)], [], hp X G q841.2) _
                    refine ab_U.run 2 (S' := (134, [some (.ref 232), some (.int q1.1)], [.int (q841.2.1 232 15)], hp X G q841.2)) rfl ?_
                    refine ab_U.if_ne rfl (fun b843 => ?_) (fun b843 => ?_)
                    · rw [if_pos b843] at hf
                      refine ab_U.run 1 (S' := (151, [some (.ref 232), some (.int q1.1)], [.ref 232], hp X G q841.2)) rfl ?_
                      obtain ⟨q844, h845, hf⟩ := ab_bnd hf
                      refine ab_U.fn rfl rfl (t_X9_step (X := X) hG h845) (by omega) ?_
                      show ab_U _ _ _ (154, [some (.ref 232), some (.int q1.1)], [], hp X G q844.2) _
                      obtain rfl := Option.some.inj hf
                      exact ab_U.ret rfl rfl ⟨rfl, rfl⟩
                    · rw [if_neg b843] at hf
                      refine ab_U.run 3 (S' := (142, [some (.ref 232), some (.int q1.1)], [.int 3, .int (q841.2.1 232 19)], hp X G q841.2)) rfl ?_
                      refine ab_U.ic_eq rfl (fun b846 => ?_) (fun b846 => ?_)
                      · rw [if_pos b846] at hf
                        refine ab_U.run 1 (S' := (151, [some (.ref 232), some (.int q1.1)], [.ref 232], hp X G q841.2)) rfl ?_
                        obtain ⟨q847, h848, hf⟩ := ab_bnd hf
                        refine ab_U.fn rfl rfl (t_X9_step (X := X) hG h848) (by omega) ?_
                        show ab_U _ _ _ (154, [some (.ref 232), some (.int q1.1)], [], hp X G q847.2) _
                        obtain rfl := Option.some.inj hf
                        exact ab_U.ret rfl rfl ⟨rfl, rfl⟩
                      · rw [if_neg b846] at hf
                        refine ab_U.run 2 (S' := (147, [some (.ref 232), some (.int q1.1)], [.int 2, .ref 232], hp X G q841.2)) rfl ?_
                        obtain ⟨q849, h850, hf⟩ := ab_bnd hf
                        refine ab_U.fn rfl rfl (t_X9_fails (X := X) hG h850) (by omega) ?_
                        show ab_U _ _ _ (150, [some (.ref 232), some (.int q1.1)], [], hp X G q849.2) _
                        refine ab_U.run 1 (S' := (151, [some (.ref 232), some (.int q1.1)], [.ref 232], hp X G q849.2)) rfl ?_
                        obtain ⟨q851, h852, hf⟩ := ab_bnd hf
                        refine ab_U.fn rfl rfl (t_X9_step (X := X) hG h852) (by omega) ?_
                        show ab_U _ _ _ (154, [some (.ref 232), some (.int q1.1)], [], hp X G q851.2) _
                        obtain rfl := Option.some.inj hf
                        exact ab_U.ret rfl rfl ⟨rfl, rfl⟩
                  · rw [if_neg b840] at hf
                    obtain rfl := Option.some.inj hf
                    exact ab_U.ret rfl rfl ⟨rfl, rfl⟩
                · rw [if_neg b835] at hf
                  refine ab_U.run 7 (S' := (93, [some (.ref 232), some (.int q1.1)], [.int 1, .int (((q833.2.1 232 9) >>> (q1.1 &&& 31)) &&& 1)], hp X G q833.2)) rfl ?_
                  refine ab_U.ic_ne rfl (fun b853 => ?_) (fun b853 => ?_)
                  · rw [if_pos b853] at hf
                    refine ab_U.run 7 (S' := (110, [some (.ref 232), some (.int q1.1)], [.int ((q833.2.1 232 9) ||| (1 <<< (q1.1 &&& 31))), .ref 232], hp X G q833.2)) rfl ?_
                    obtain ⟨m854, e855, hf⟩ := ab_bnd hf
                    have e855 := Option.some.inj e855
                    refine ab_U.pfI (ci := 9) (k9 := 9) rfl ⟨by decide, rfl⟩ ⟨rfl, rfl, by decide, rfl⟩ rfl ?_
                    show ab_U _ _ _ (113, [some (.ref 232), some (.int q1.1)], [], hp X G (fm_sI q833.2 232 9 ((q833.2.1 232 9) ||| (1 <<< (q1.1 &&& 31))))) _
                    rw [e855]
                    refine ab_U.run 1 (S' := (114, [some (.ref 232), some (.int q1.1)], [.ref 232], hp X G m854)) rfl ?_
                    obtain ⟨q856, h857, hf⟩ := ab_bnd hf
                    refine ab_U.fn rfl rfl (t_X9_step (X := X) hG h857) (by omega) ?_
                    show ab_U _ _ _ (117, [some (.ref 232), some (.int q1.1)], [], hp X G q856.2) _
                    refine ab_U.run 2 (S' := (121, [some (.ref 232), some (.int q1.1)], [.int (q856.2.1 232 15)], hp X G q856.2)) rfl ?_
                    refine ab_U.if_le rfl (fun b858 => ?_) (fun b858 => ?_)
                    · rw [if_pos b858] at hf
                      refine ab_U.run 2 (S' := (127, [some (.ref 232), some (.int q1.1)], [.int q1.1, .ref 232], hp X G q856.2)) rfl ?_
                      obtain ⟨q859, h860, hf⟩ := ab_bnd hf
                      refine ab_U.fn rfl rfl (t_X9_readMore (X := X) hG h860) (by omega) ?_
                      show ab_U _ _ _ (130, [some (.ref 232), some (.int q1.1)], [], hp X G q859.2) _
                      refine ab_U.run 2 (S' := (134, [some (.ref 232), some (.int q1.1)], [.int (q859.2.1 232 15)], hp X G q859.2)) rfl ?_
                      refine ab_U.if_ne rfl (fun b861 => ?_) (fun b861 => ?_)
                      · rw [if_pos b861] at hf
                        refine ab_U.run 1 (S' := (151, [some (.ref 232), some (.int q1.1)], [.ref 232], hp X G q859.2)) rfl ?_
                        obtain ⟨q862, h863, hf⟩ := ab_bnd hf
                        refine ab_U.fn rfl rfl (t_X9_step (X := X) hG h863) (by omega) ?_
                        show ab_U _ _ _ (154, [some (.ref 232), some (.int q1.1)], [], hp X G q862.2) _
                        obtain rfl := Option.some.inj hf
                        exact ab_U.ret rfl rfl ⟨rfl, rfl⟩
                      · rw [if_neg b861] at hf
                        refine ab_U.run 3 (S' := (142, [some (.ref 232), some (.int q1.1)], [.int 3, .int (q859.2.1 232 19)], hp X G q859.2)) rfl ?_
                        refine ab_U.ic_eq rfl (fun b864 => ?_) (fun b864 => ?_)
                        · rw [if_pos b864] at hf
                          refine ab_U.run 1 (S' := (151, [some (.ref 232), some (.int q1.1)], [.ref 232], hp X G q859.2)) rfl ?_
                          obtain ⟨q865, h866, hf⟩ := ab_bnd hf
                          refine ab_U.fn rfl rfl (t_X9_step (X := X) hG h866) (by omega) ?_
                          show ab_U _ _ _ (154, [some (.ref 232), some (.int q1.1)], [], hp X G q865.2) _
                          obtain rfl := Option.some.inj hf
                          exact ab_U.ret rfl rfl ⟨rfl, rfl⟩
                        · rw [if_neg b864] at hf
                          refine ab_U.run 2 (S' := (147, [some (.ref 232), some (.int q1.1)], [.int 2, .ref 232], hp X G q859.2)) rfl ?_
                          obtain ⟨q867, h868, hf⟩ := ab_bnd hf
                          refine ab_U.fn rfl rfl (t_X9_fails (X := X) hG h868) (by omega) ?_
                          show ab_U _ _ _ (150, [some (.ref 232), some (.int q1.1)], [], hp X G q867.2) _
                          refine ab_U.run 1 (S' := (151, [some (.ref 232), some (.int q1.1)], [.ref 232], hp X G q867.2)) rfl ?_
                          obtain ⟨q869, h870, hf⟩ := ab_bnd hf
                          refine ab_U.fn rfl rfl (t_X9_step (X := X) hG h870) (by omega) ?_
                          show ab_U _ _ _ (154, [some (.ref 232), some (.int q1.1)], [], hp X G q869.2) _
                          obtain rfl := Option.some.inj hf
                          exact ab_U.ret rfl rfl ⟨rfl, rfl⟩
                    · rw [if_neg b858] at hf
                      obtain rfl := Option.some.inj hf
                      exact ab_U.ret rfl rfl ⟨rfl, rfl⟩
                  · rw [if_neg b853] at hf
                    refine ab_U.run 2 (S' := (98, [some (.ref 232), some (.int q1.1)], [.int 4, .ref 232], hp X G q833.2)) rfl ?_
                    obtain ⟨q871, h872, hf⟩ := ab_bnd hf
                    refine ab_U.fn rfl rfl (t_X9_fails (X := X) hG h872) (by omega) ?_
                    show ab_U _ _ _ (101, [some (.ref 232), some (.int q1.1)], [], hp X G q871.2) _
                    refine ab_U.run 7 (S' := (110, [some (.ref 232), some (.int q1.1)], [.int ((q871.2.1 232 9) ||| (1 <<< (q1.1 &&& 31))), .ref 232], hp X G q871.2)) rfl ?_
                    obtain ⟨m873, e874, hf⟩ := ab_bnd hf
                    have e874 := Option.some.inj e874
                    refine ab_U.pfI (ci := 9) (k9 := 9) rfl ⟨by decide, rfl⟩ ⟨rfl, rfl, by decide, rfl⟩ rfl ?_
                    show ab_U _ _ _ (113, [some (.ref 232), some (.int q1.1)], [], hp X G (fm_sI q871.2 232 9 ((q871.2.1 232 9) ||| (1 <<< (q1.1 &&& 31))))) _
                    rw [e874]
                    refine ab_U.run 1 (S' := (114, [some (.ref 232), some (.int q1.1)], [.ref 232], hp X G m873)) rfl ?_
                    obtain ⟨q875, h876, hf⟩ := ab_bnd hf
                    refine ab_U.fn rfl rfl (t_X9_step (X := X) hG h876) (by omega) ?_
                    show ab_U _ _ _ (117, [some (.ref 232), some (.int q1.1)], [], hp X G q875.2) _
                    refine ab_U.run 2 (S' := (121, [some (.ref 232), some (.int q1.1)], [.int (q875.2.1 232 15)], hp X G q875.2)) rfl ?_
                    refine ab_U.if_le rfl (fun b877 => ?_) (fun b877 => ?_)
                    · rw [if_pos b877] at hf
                      refine ab_U.run 2 (S' := (127, [some (.ref 232), some (.int q1.1)], [.int q1.1, .ref 232], hp X G q875.2)) rfl ?_
                      obtain ⟨q878, h879, hf⟩ := ab_bnd hf
                      refine ab_U.fn rfl rfl (t_X9_readMore (X := X) hG h879) (by omega) ?_
                      show ab_U _ _ _ (130, [some (.ref 232), some (.int q1.1)], [], hp X G q878.2) _
                      refine ab_U.run 2 (S' := (134, [some (.ref 232), some (.int q1.1)], [.int (q878.2.1 232 15)], hp X G q878.2)) rfl ?_
                      refine ab_U.if_ne rfl (fun b880 => ?_) (fun b880 => ?_)
                      · rw [if_pos b880] at hf
                        refine ab_U.run 1 (S' := (151, [some (.ref 232), some (.int q1.1)], [.ref 232], hp X G q878.2)) rfl ?_
                        obtain ⟨q881, h882, hf⟩ := ab_bnd hf
                        refine ab_U.fn rfl rfl (t_X9_step (X := X) hG h882) (by omega) ?_
                        show ab_U _ _ _ (154, [some (.ref 232), some (.int q1.1)], [], hp X G q881.2) _
                        obtain rfl := Option.some.inj hf
                        exact ab_U.ret rfl rfl ⟨rfl, rfl⟩
                      · rw [if_neg b880] at hf
                        refine ab_U.run 3 (S' := (142, [some (.ref 232), some (.int q1.1)], [.int 3, .int (q878.2.1 232 19)], hp X G q878.2)) rfl ?_
                        refine ab_U.ic_eq rfl (fun b883 => ?_) (fun b883 => ?_)
                        · rw [if_pos b883] at hf
                          refine ab_U.run 1 (S' := (151, [some (.ref 232), some (.int q1.1)], [.ref 232], hp X G q878.2)) rfl ?_
                          obtain ⟨q884, h885, hf⟩ := ab_bnd hf
                          refine ab_U.fn rfl rfl (t_X9_step (X := X) hG h885) (by omega) ?_
                          show ab_U _ _ _ (154, [some (.ref 232), some (.int q1.1)], [], hp X G q884.2) _
                          obtain rfl := Option.some.inj hf
                          exact ab_U.ret rfl rfl ⟨rfl, rfl⟩
                        · rw [if_neg b883] at hf
                          refine ab_U.run 2 (S' := (147, [some (.ref 232), some (.int q1.1)], [.int 2, .ref 232], hp X G q878.2)) rfl ?_
                          obtain ⟨q886, h887, hf⟩ := ab_bnd hf
                          refine ab_U.fn rfl rfl (t_X9_fails (X := X) hG h887) (by omega) ?_
                          show ab_U _ _ _ (150, [some (.ref 232), some (.int q1.1)], [], hp X G q886.2) _
                          refine ab_U.run 1 (S' := (151, [some (.ref 232), some (.int q1.1)], [.ref 232], hp X G q886.2)) rfl ?_
                          obtain ⟨q888, h889, hf⟩ := ab_bnd hf
                          refine ab_U.fn rfl rfl (t_X9_step (X := X) hG h889) (by omega) ?_
                          show ab_U _ _ _ (154, [some (.ref 232), some (.int q1.1)], [], hp X G q888.2) _
                          obtain rfl := Option.some.inj hf
                          exact ab_U.ret rfl rfl ⟨rfl, rfl⟩
                    · rw [if_neg b877] at hf
                      obtain rfl := Option.some.inj hf
                      exact ab_U.ret rfl rfl ⟨rfl, rfl⟩
  · rw [if_neg b5] at hf
    refine ab_U.run 2 (S' := (19, [some (.ref 232), some (.int q1.1)], [.int 2, .ref 232], hp X G q3.2)) rfl ?_
    obtain ⟨q890, h891, hf⟩ := ab_bnd hf
    refine ab_U.fn rfl rfl (t_X9_fails (X := X) hG h891) (by omega) ?_
    show ab_U _ _ _ (22, [some (.ref 232), some (.int q1.1)], [], hp X G q890.2) _
    obtain rfl := Option.some.inj hf
    exact ab_U.ret rfl rfl ⟨rfl, rfl⟩
