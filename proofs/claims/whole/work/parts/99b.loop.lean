/-! ===== the law's loop (printed by program) ===== -/
def zlawB (L : Nat) (xs : Nat → Int32) (v1 v4 v7 v11 : Int) (u8 : zMem) (k13 : zMem → zRs) : zRs := if (zand v11 63) = 0 then (zsld L xs (zw32 (v7 + 1)) (fun v15 => zsld L xs (zw32 (v7 + 2)) (fun v16 => zvc 10 v1 (fX10_saying v1 v15 v16 u8) (fun v17 u18 => zsld L xs (zw32 (v7 + 1)) (fun v19 => zsld L xs (zw32 (v7 + 2)) (fun v20 => zvc 11 v4 (fX11_saying v4 v19 v20 u18) (fun v21 u22 => if v17 = v21 then (k13 u22) else (none)))))))) else (if (zand v11 63) = 1 then (zsld L xs (zw32 (v7 + 1)) (fun v24 => zsld L xs (zw32 (v7 + 2)) (fun v25 => zsld L xs (zw32 (v7 + 3)) (fun v26 => zvc 10 v1 (fX10_sayings v1 v24 v25 v26 u8) (fun v27 u28 => zsld L xs (zw32 (v7 + 1)) (fun v29 => zsld L xs (zw32 (v7 + 2)) (fun v30 => zsld L xs (zw32 (v7 + 3)) (fun v31 => zvc 11 v4 (fX11_sayings v4 v29 v30 v31 u28) (fun v32 u33 => if v27 = v32 then (k13 u33) else (none)))))))))) else (if (zand v11 63) = 2 then (zsld L xs (zw32 (v7 + 1)) (fun v35 => zsld L xs (zw32 (v7 + 2)) (fun v36 => zsld L xs (zw32 (v7 + 3)) (fun v37 => zvc 10 v1 (fX10_mend v1 v35 v36 v37 u8) (fun v38 u39 => zsld L xs (zw32 (v7 + 1)) (fun v40 => zsld L xs (zw32 (v7 + 2)) (fun v41 => zsld L xs (zw32 (v7 + 3)) (fun v42 => zvc 11 v4 (fX11_mend v4 v40 v41 v42 u39) (fun v43 u44 => if v38 = v43 then (k13 u44) else (none)))))))))) else (if (zand v11 63) = 3 then (zsld L xs (zw32 (v7 + 1)) (fun v46 => zsld L xs (zw32 (v7 + 2)) (fun v47 => zvc 10 v1 (fX10_of v1 v46 v47 u8) (fun v48 u49 => zsld L xs (zw32 (v7 + 1)) (fun v50 => zsld L xs (zw32 (v7 + 2)) (fun v51 => zvc 11 v4 (fX11_of v4 v50 v51 u49) (fun v52 u53 => if v48 = v52 then (k13 u53) else (none)))))))) else (if (zand v11 63) = 4 then (zsld L xs (zw32 (v7 + 1)) (fun v55 => zvc 10 v1 (fX10_feed v1 v55 u8) (fun v56 u57 => zsld L xs (zw32 (v7 + 1)) (fun v58 => zvc 11 v4 (fX11_feed v4 v58 u57) (fun v59 u60 => if v56 = v59 then (k13 u60) else (none)))))) else (if (zand v11 63) = 5 then (zsld L xs (zw32 (v7 + 1)) (fun v62 => zsld L xs (zw32 (v7 + 2)) (fun v63 => zvc 10 v1 (fX10_writer v1 v62 v63 u8) (fun v64 u65 => zsld L xs (zw32 (v7 + 1)) (fun v66 => zsld L xs (zw32 (v7 + 2)) (fun v67 => zvc 11 v4 (fX11_writer v4 v66 v67 u65) (fun v68 u69 => if v64 = v68 then (k13 u69) else (none)))))))) else (if (zand v11 63) = 6 then (zsld L xs (zw32 (v7 + 1)) (fun v71 => zsld L xs (zw32 (v7 + 2)) (fun v72 => zvc 10 v1 (fX10_heed v1 v71 v72 u8) (fun v73 u74 => zsld L xs (zw32 (v7 + 1)) (fun v75 => zsld L xs (zw32 (v7 + 2)) (fun v76 => zvc 11 v4 (fX11_heed v4 v75 v76 u74) (fun v77 u78 => if v73 = v77 then (k13 u78) else (none)))))))) else (if (zand v11 63) = 7 then (zsld L xs (zw32 (v7 + 1)) (fun v80 => zsld L xs (zw32 (v7 + 2)) (fun v81 => zvc 10 v1 (fX10_take v1 v80 v81 u8) (fun v82 u83 => zsld L xs (zw32 (v7 + 1)) (fun v84 => zsld L xs (zw32 (v7 + 2)) (fun v85 => zvc 11 v4 (fX11_take v4 v84 v85 u83) (fun v86 u87 => if v82 = v86 then (k13 u87) else (none)))))))) else (if (zand v11 63) = 8 then (zsld L xs (zw32 (v7 + 1)) (fun v89 => zsld L xs (zw32 (v7 + 2)) (fun v90 => zvc 10 v1 (fX10_told v1 v89 v90 u8) (fun v91 u92 => zsld L xs (zw32 (v7 + 1)) (fun v93 => zsld L xs (zw32 (v7 + 2)) (fun v94 => zvc 11 v4 (fX11_told v4 v93 v94 u92) (fun v95 u96 => if v91 = v95 then (k13 u96) else (none)))))))) else (if (zand v11 63) = 9 then (zsld L xs (zw32 (v7 + 1)) (fun v98 => zsld L xs (zw32 (v7 + 2)) (fun v99 => zsld L xs (zw32 (v7 + 3)) (fun v100 => zvc 10 v1 (fX10_add v1 v98 v99 v100 u8) (fun v101 u102 => zsld L xs (zw32 (v7 + 1)) (fun v103 => zsld L xs (zw32 (v7 + 2)) (fun v104 => zsld L xs (zw32 (v7 + 3)) (fun v105 => zvc 11 v4 (fX11_add v4 v103 v104 v105 u102) (fun v106 u107 => if v101 = v106 then (k13 u107) else (none)))))))))) else (if (zand v11 63) = 10 then (zsld L xs (zw32 (v7 + 1)) (fun v109 => zsld L xs (zw32 (v7 + 2)) (fun v110 => zvc 10 v1 (fX10_strike v1 v109 v110 u8) (fun v111 u112 => zsld L xs (zw32 (v7 + 1)) (fun v113 => zsld L xs (zw32 (v7 + 2)) (fun v114 => zvc 11 v4 (fX11_strike v4 v113 v114 u112) (fun v115 u116 => if v111 = v115 then (k13 u116) else (none)))))))) else (if (zand v11 63) = 11 then (zsld L xs (zw32 (v7 + 1)) (fun v118 => zsld L xs (zw32 (v7 + 2)) (fun v119 => zvc 10 v1 (fX10_read v1 v118 v119 u8) (fun v120 u121 => zsld L xs (zw32 (v7 + 1)) (fun v122 => zsld L xs (zw32 (v7 + 2)) (fun v123 => zvc 11 v4 (fX11_read v4 v122 v123 u121) (fun v124 u125 => if v120 = v124 then (k13 u125) else (none)))))))) else (if (zand v11 63) = 12 then (zsld L xs (zw32 (v7 + 1)) (fun v127 => zsld L xs (zw32 (v7 + 2)) (fun v128 => zvc 10 v1 (fX10_cut v1 v127 v128 u8) (fun v129 u130 => zsld L xs (zw32 (v7 + 1)) (fun v131 => zsld L xs (zw32 (v7 + 2)) (fun v132 => zvc 11 v4 (fX11_cut v4 v131 v132 u130) (fun v133 u134 => if v129 = v133 then (k13 u134) else (none)))))))) else (if (zand v11 63) = 13 then (zsld L xs (zw32 (v7 + 1)) (fun v136 => zsld L xs (zw32 (v7 + 2)) (fun v137 => zvc 10 v1 (fX10_page v1 v136 v137 u8) (fun v138 u139 => zsld L xs (zw32 (v7 + 1)) (fun v140 => zsld L xs (zw32 (v7 + 2)) (fun v141 => zvc 11 v4 (fX11_page v4 v140 v141 u139) (fun v142 u143 => if v138 = v142 then (k13 u143) else (none)))))))) else (if (zand v11 63) = 14 then (zsld L xs (zw32 (v7 + 1)) (fun v145 => zsld L xs (zw32 (v7 + 2)) (fun v146 => zvc 10 v1 (fX10_led v1 v145 v146 u8) (fun v147 u148 => zsld L xs (zw32 (v7 + 1)) (fun v149 => zsld L xs (zw32 (v7 + 2)) (fun v150 => zvc 11 v4 (fX11_led v4 v149 v150 u148) (fun v151 u152 => if v147 = v151 then (k13 u152) else (none)))))))) else (if (zand v11 63) = 15 then (zsld L xs (zw32 (v7 + 1)) (fun v154 => zsld L xs (zw32 (v7 + 2)) (fun v155 => zvc 10 v1 (fX10_sure v1 v154 v155 u8) (fun v156 u157 => zsld L xs (zw32 (v7 + 1)) (fun v158 => zsld L xs (zw32 (v7 + 2)) (fun v159 => zvc 11 v4 (fX11_sure v4 v158 v159 u157) (fun v160 u161 => if v156 = v160 then (k13 u161) else (none)))))))) else (if (zand v11 63) = 16 then (zvc 10 v1 (fX10_only v1 u8) (fun v163 u164 => zvc 11 v4 (fX11_only v4 u164) (fun v165 u166 => if v163 = v165 then (k13 u166) else (none)))) else (if (zand v11 63) = 17 then (zsld L xs (zw32 (v7 + 1)) (fun v168 => zsld L xs (zw32 (v7 + 2)) (fun v169 => zvc 10 v1 (fX10_fight v1 v168 v169 u8) (fun v170 u171 => zsld L xs (zw32 (v7 + 1)) (fun v172 => zsld L xs (zw32 (v7 + 2)) (fun v173 => zvc 11 v4 (fX11_fight v4 v172 v173 u171) (fun v174 u175 => if v170 = v174 then (k13 u175) else (none)))))))) else (if (zand v11 63) = 18 then (zsld L xs (zw32 (v7 + 1)) (fun v177 => zvc 10 v1 (fX10_order v1 v177 u8) (fun v178 u179 => zsld L xs (zw32 (v7 + 1)) (fun v180 => zvc 11 v4 (fX11_order v4 v180 u179) (fun v181 u182 => if v178 = v181 then (k13 u182) else (none)))))) else (if (zand v11 63) = 19 then (zsld L xs (zw32 (v7 + 1)) (fun v184 => zsld L xs (zw32 (v7 + 2)) (fun v185 => zsld L xs (zw32 (v7 + 3)) (fun v186 => zvc 10 v1 (fX10_said v1 v184 v185 v186 u8) (fun v187 u188 => zsld L xs (zw32 (v7 + 1)) (fun v189 => zsld L xs (zw32 (v7 + 2)) (fun v190 => zsld L xs (zw32 (v7 + 3)) (fun v191 => zvc 11 v4 (fX11_said v4 v189 v190 v191 u188) (fun v192 u193 => if (zcmp v187 v192) = 0 then (k13 u193) else (none)))))))))) else (if (zand v11 63) = 20 then (zsld L xs (zw32 (v7 + 1)) (fun v195 => zvc 10 v1 (fX10_whose v1 v195 u8) (fun v196 u197 => zsld L xs (zw32 (v7 + 1)) (fun v198 => zvc 11 v4 (fX11_whose v4 v198 u197) (fun v199 u200 => if v196 = v199 then (k13 u200) else (none)))))) else (if (zand v11 63) = 21 then (zsld L xs (zw32 (v7 + 1)) (fun v202 => zsld L xs (zw32 (v7 + 2)) (fun v203 => zvc 10 v1 (fX10_learnt v1 v202 v203 u8) (fun v204 u205 => zsld L xs (zw32 (v7 + 1)) (fun v206 => zsld L xs (zw32 (v7 + 2)) (fun v207 => zvc 11 v4 (fX11_learnt v4 v206 v207 u205) (fun v208 u209 => if v204 = v208 then (k13 u209) else (none)))))))) else (if (zand v11 63) = 22 then (zsld L xs (zw32 (v7 + 1)) (fun v211 => zsld L xs (zw32 (v7 + 2)) (fun v212 => zvc 10 v1 (fX10_asleep v1 v211 v212 u8) (fun v213 u214 => zsld L xs (zw32 (v7 + 1)) (fun v215 => zsld L xs (zw32 (v7 + 2)) (fun v216 => zvc 11 v4 (fX11_asleep v4 v215 v216 u214) (fun v217 u218 => if v213 = v217 then (k13 u218) else (none)))))))) else (if (zand v11 63) = 23 then (zsld L xs (zw32 (v7 + 1)) (fun v220 => zvc 10 v1 (fX10_ask v1 v220 u8) (fun v221 u222 => zsld L xs (zw32 (v7 + 1)) (fun v223 => zvc 11 v4 (fX11_ask v4 v223 u222) (fun v224 u225 => if v221 = v224 then (k13 u225) else (none)))))) else (if (zand v11 63) = 24 then (zsld L xs (zw32 (v7 + 1)) (fun v227 => zsld L xs (zw32 (v7 + 2)) (fun v228 => zvc 10 v1 (fX10_years v1 v227 v228 u8) (fun v229 u230 => zsld L xs (zw32 (v7 + 1)) (fun v231 => zsld L xs (zw32 (v7 + 2)) (fun v232 => zvc 11 v4 (fX11_years v4 v231 v232 u230) (fun v233 u234 => if v229 = v233 then (k13 u234) else (none)))))))) else (if (zand v11 63) = 25 then (zvc 10 v1 (fX10_undo v1 u8) (fun v236 u237 => zvc 11 v4 (fX11_undo v4 u237) (fun v238 u239 => if v236 = v238 then (k13 u239) else (none)))) else (if (zand v11 63) = 26 then (zvc 10 v1 (fX10_redo v1 u8) (fun v241 u242 => zvc 11 v4 (fX11_redo v4 u242) (fun v243 u244 => if v241 = v243 then (k13 u244) else (none)))) else (if (zand v11 63) = 27 then (zsld L xs (zw32 (v7 + 1)) (fun v246 => zvc 10 v1 (fX10_body v1 v246 u8) (fun v247 u248 => zsld L xs (zw32 (v7 + 1)) (fun v249 => zvc 11 v4 (fX11_body v4 v249 u248) (fun v250 u251 => if v247 = v250 then (k13 u251) else (none)))))) else (if (zand v11 63) = 28 then (zsld L xs (zw32 (v7 + 1)) (fun v253 => zsld L xs (zw32 (v7 + 2)) (fun v254 => zsld L xs (zw32 (v7 + 3)) (fun v255 => zvc 10 v1 (fX10_act v1 v253 v254 v255 u8) (fun v256 u257 => zsld L xs (zw32 (v7 + 1)) (fun v258 => zsld L xs (zw32 (v7 + 2)) (fun v259 => zsld L xs (zw32 (v7 + 3)) (fun v260 => zvc 11 v4 (fX11_act v4 v258 v259 v260 u257) (fun v261 u262 => if v256 = v261 then (k13 u262) else (none)))))))))) else (if (zand v11 63) = 29 then (zsld L xs (zw32 (v7 + 1)) (fun v264 => zvc 10 v1 (fX10_trace v1 v264 u8) (fun v265 u266 => zsld L xs (zw32 (v7 + 1)) (fun v267 => zvc 11 v4 (fX11_trace v4 v267 u266) (fun v268 u269 => if v265 = v268 then (k13 u269) else (none)))))) else (if (zand v11 63) = 30 then (zsld L xs (zw32 (v7 + 1)) (fun v271 => zsld L xs (zw32 (v7 + 2)) (fun v272 => zvc 10 v1 (fX10_keep v1 v271 v272 u8) (fun v273 u274 => zsld L xs (zw32 (v7 + 1)) (fun v275 => zsld L xs (zw32 (v7 + 2)) (fun v276 => zvc 11 v4 (fX11_keep v4 v275 v276 u274) (fun v277 u278 => if v273 = v277 then (k13 u278) else (none)))))))) else (if (zand v11 63) = 31 then (zsld L xs (zw32 (v7 + 1)) (fun v280 => zsld L xs (zw32 (v7 + 2)) (fun v281 => zsld L xs (zw32 (v7 + 3)) (fun v282 => zvc 10 v1 (fX10_row v1 v280 v281 v282 u8) (fun v283 u284 => zsld L xs (zw32 (v7 + 1)) (fun v285 => zsld L xs (zw32 (v7 + 2)) (fun v286 => zsld L xs (zw32 (v7 + 3)) (fun v287 => zvc 11 v4 (fX11_row v4 v285 v286 v287 u284) (fun v288 u289 => if v283 = v288 then (k13 u289) else (none)))))))))) else (if (zand v11 63) = 32 then (zsld L xs (zw32 (v7 + 1)) (fun v291 => zsld L xs (zw32 (v7 + 2)) (fun v292 => zsld L xs (zw32 (v7 + 3)) (fun v293 => zsld L xs (zw32 (v7 + 4)) (fun v294 => zvc 10 v1 (fX10_put v1 v291 v292 (zlor (zlsh v293 32) (zland v294 4294967295)) u8) (fun v295 u296 => zsld L xs (zw32 (v7 + 1)) (fun v297 => zsld L xs (zw32 (v7 + 2)) (fun v298 => zsld L xs (zw32 (v7 + 3)) (fun v299 => zsld L xs (zw32 (v7 + 4)) (fun v300 => zvc 11 v4 (fX11_put v4 v297 v298 (zlor (zlsh v299 32) (zland v300 4294967295)) u296) (fun v301 u302 => if v295 = v301 then (k13 u302) else (none)))))))))))) else (if (zand v11 63) = 33 then (zsld L xs (zw32 (v7 + 1)) (fun v304 => zsld L xs (zw32 (v7 + 2)) (fun v305 => zvc 10 v1 (fX10_element v1 v304 v305 u8) (fun v306 u307 => zsld L xs (zw32 (v7 + 1)) (fun v308 => zsld L xs (zw32 (v7 + 2)) (fun v309 => zvc 11 v4 (fX11_element v4 v308 v309 u307) (fun v310 u311 => if (zcmp v306 v310) = 0 then (k13 u311) else (none)))))))) else (if (zand v11 63) = 34 then (zsld L xs (zw32 (v7 + 1)) (fun v313 => zsld L xs (zw32 (v7 + 2)) (fun v314 => zsld L xs (zw32 (v7 + 3)) (fun v315 => zsld L xs (zw32 (v7 + 4)) (fun v316 => zsld L xs (zw32 (v7 + 5)) (fun v317 => zvc 10 v1 (fX10_shift v1 v313 v314 v315 v316 v317 u8) (fun v318 u319 => zsld L xs (zw32 (v7 + 1)) (fun v320 => zsld L xs (zw32 (v7 + 2)) (fun v321 => zsld L xs (zw32 (v7 + 3)) (fun v322 => zsld L xs (zw32 (v7 + 4)) (fun v323 => zsld L xs (zw32 (v7 + 5)) (fun v324 => zvc 11 v4 (fX11_shift v4 v320 v321 v322 v323 v324 u319) (fun v325 u326 => if v318 = v325 then (k13 u326) else (none)))))))))))))) else (if (zand v11 63) = 35 then (zsld L xs (zw32 (v7 + 1)) (fun v328 => zsld L xs (zw32 (v7 + 2)) (fun v329 => zvc 10 v1 (fX10_taken v1 v328 v329 u8) (fun v330 u331 => zsld L xs (zw32 (v7 + 1)) (fun v332 => zsld L xs (zw32 (v7 + 2)) (fun v333 => zvc 11 v4 (fX11_taken v4 v332 v333 u331) (fun v334 u335 => if v330 = v334 then (k13 u335) else (none)))))))) else (if (zand v11 63) = 36 then (zsld L xs (zw32 (v7 + 1)) (fun v337 => zvc 10 v1 (fX10_count v1 v337 u8) (fun v338 u339 => zsld L xs (zw32 (v7 + 1)) (fun v340 => zvc 11 v4 (fX11_count v4 v340 u339) (fun v341 u342 => if v338 = v341 then (k13 u342) else (none)))))) else (k13 u8)))))))))))))))))))))))))))))))))))))
set_option maxRecDepth 100000 in
set_option maxHeartbeats 4000000 in
theorem fL_law_eq {L : Nat} {xs : Nat → Int32} {u0 : zMem} : fL_law L xs u0 = znew 10 u0 (fun v1 u2 => zic v1 (fX10_init v1 u2) (fun _ u3 => znew 11 u3 (fun v4 u5 => zic v4 (fX11_init v4 u5) (fun _ u6 => zlp (fun _ _ => none) (fun k9 (v7 : Int) (u8 : zMem) => zslen L (fun v10 => if v7 > (zw32 (v10 - 6)) then (some (1, u8)) else (zsld L xs v7 (fun v11 => zjn (fun (u12 : zMem) => k9 (zw32 (v7 + 6)) u12) (fun k13 => zlawB L xs v1 v4 v7 v11 u8 k13))))) 1000000 0 u6)))) := rfl
set_option maxHeartbeats 4000000 in
theorem zcmp_r {x : Int} : zcmp x x = 0 := by rw [zcmp_0]
set_option maxRecDepth 100000 in
set_option maxHeartbeats 4000000 in
theorem zlawB_ok {L : Nat} {xs : Nat → Int32} {v7 x1 x2 x3 x4 x5 : Int} (b1 : z32 x1) (b2 : z32 x2) (b3 : z32 x3) (b4 : z32 x4) (b5 : z32 x5) (h1 : ∀ K : Int → zRs, zsld L xs (zw32 (v7 + 1)) K = K x1) (h2 : ∀ K : Int → zRs, zsld L xs (zw32 (v7 + 2)) K = K x2) (h3 : ∀ K : Int → zRs, zsld L xs (zw32 (v7 + 3)) K = K x3) (h4 : ∀ K : Int → zRs, zsld L xs (zw32 (v7 + 4)) K = K x4) (h5 : ∀ K : Int → zRs, zsld L xs (zw32 (v7 + 5)) K = K x5) {u : zMem} (hA : zGA u) (v11 : Int) (k13 : zMem → zRs) : ∃ u', zGA u' ∧ zlawB L xs 5 129 v7 v11 u k13 = k13 u' := by
  unfold zlawB
  by_cases c0 : zand v11 63 = 0
  · obtain ⟨r, u1, u2, e1, e2, g⟩ := st_saying hA x1 x2 b1 b2
    refine ⟨u2, g, ?_⟩
    rw [if_pos c0, h1, h2, vq_5 e1, h1, h2, vq_129 e2, if_pos rfl]
  rw [if_neg c0]
  by_cases c1 : zand v11 63 = 1
  · obtain ⟨r, u1, u2, e1, e2, g⟩ := st_sayings hA x1 x2 x3 b1 b2 b3
    refine ⟨u2, g, ?_⟩
    rw [if_pos c1, h1, h2, h3, vq_5 e1, h1, h2, h3, vq_129 e2, if_pos rfl]
  rw [if_neg c1]
  by_cases c2 : zand v11 63 = 2
  · obtain ⟨r, u1, u2, e1, e2, g⟩ := st_mend hA x1 x2 x3 b1 b2 b3
    refine ⟨u2, g, ?_⟩
    rw [if_pos c2, h1, h2, h3, vq_5 e1, h1, h2, h3, vq_129 e2, if_pos rfl]
  rw [if_neg c2]
  by_cases c3 : zand v11 63 = 3
  · obtain ⟨r, u1, u2, e1, e2, g⟩ := st_of hA x1 x2 b1 b2
    refine ⟨u2, g, ?_⟩
    rw [if_pos c3, h1, h2, vq_5 e1, h1, h2, vq_129 e2, if_pos rfl]
  rw [if_neg c3]
  by_cases c4 : zand v11 63 = 4
  · obtain ⟨r, u1, u2, e1, e2, g⟩ := st_feed hA x1 b1
    refine ⟨u2, g, ?_⟩
    rw [if_pos c4, h1, vq_5 e1, h1, vq_129 e2, if_pos rfl]
  rw [if_neg c4]
  by_cases c5 : zand v11 63 = 5
  · obtain ⟨r, u1, u2, e1, e2, g⟩ := st_writer hA x1 x2 b1 b2
    refine ⟨u2, g, ?_⟩
    rw [if_pos c5, h1, h2, vq_5 e1, h1, h2, vq_129 e2, if_pos rfl]
  rw [if_neg c5]
  by_cases c6 : zand v11 63 = 6
  · obtain ⟨r, u1, u2, e1, e2, g⟩ := st_heed hA x1 x2 b1 b2
    refine ⟨u2, g, ?_⟩
    rw [if_pos c6, h1, h2, vq_5 e1, h1, h2, vq_129 e2, if_pos rfl]
  rw [if_neg c6]
  by_cases c7 : zand v11 63 = 7
  · obtain ⟨r, u1, u2, e1, e2, g⟩ := st_take hA x1 x2 b1 b2
    refine ⟨u2, g, ?_⟩
    rw [if_pos c7, h1, h2, vq_5 e1, h1, h2, vq_129 e2, if_pos rfl]
  rw [if_neg c7]
  by_cases c8 : zand v11 63 = 8
  · obtain ⟨r, u1, u2, e1, e2, g⟩ := st_told hA x1 x2 b1 b2
    refine ⟨u2, g, ?_⟩
    rw [if_pos c8, h1, h2, vq_5 e1, h1, h2, vq_129 e2, if_pos rfl]
  rw [if_neg c8]
  by_cases c9 : zand v11 63 = 9
  · obtain ⟨r, u1, u2, e1, e2, g⟩ := st_add hA x1 x2 x3 b1 b2 b3
    refine ⟨u2, g, ?_⟩
    rw [if_pos c9, h1, h2, h3, vq_5 e1, h1, h2, h3, vq_129 e2, if_pos rfl]
  rw [if_neg c9]
  by_cases c10 : zand v11 63 = 10
  · obtain ⟨r, u1, u2, e1, e2, g⟩ := st_strike hA x1 x2 b1 b2
    refine ⟨u2, g, ?_⟩
    rw [if_pos c10, h1, h2, vq_5 e1, h1, h2, vq_129 e2, if_pos rfl]
  rw [if_neg c10]
  by_cases c11 : zand v11 63 = 11
  · obtain ⟨r, u1, u2, e1, e2, g⟩ := st_read hA x1 x2 b1 b2
    refine ⟨u2, g, ?_⟩
    rw [if_pos c11, h1, h2, vq_5 e1, h1, h2, vq_129 e2, if_pos rfl]
  rw [if_neg c11]
  by_cases c12 : zand v11 63 = 12
  · obtain ⟨r, u1, u2, e1, e2, g⟩ := st_cut hA x1 x2 b1 b2
    refine ⟨u2, g, ?_⟩
    rw [if_pos c12, h1, h2, vq_5 e1, h1, h2, vq_129 e2, if_pos rfl]
  rw [if_neg c12]
  by_cases c13 : zand v11 63 = 13
  · obtain ⟨r, u1, u2, e1, e2, g⟩ := st_page hA x1 x2 b1 b2
    refine ⟨u2, g, ?_⟩
    rw [if_pos c13, h1, h2, vq_5 e1, h1, h2, vq_129 e2, if_pos rfl]
  rw [if_neg c13]
  by_cases c14 : zand v11 63 = 14
  · obtain ⟨r, u1, u2, e1, e2, g⟩ := st_led hA x1 x2 b1 b2
    refine ⟨u2, g, ?_⟩
    rw [if_pos c14, h1, h2, vq_5 e1, h1, h2, vq_129 e2, if_pos rfl]
  rw [if_neg c14]
  by_cases c15 : zand v11 63 = 15
  · obtain ⟨r, u1, u2, e1, e2, g⟩ := st_sure hA x1 x2 b1 b2
    refine ⟨u2, g, ?_⟩
    rw [if_pos c15, h1, h2, vq_5 e1, h1, h2, vq_129 e2, if_pos rfl]
  rw [if_neg c15]
  by_cases c16 : zand v11 63 = 16
  · obtain ⟨r, u1, u2, e1, e2, g⟩ := st_only hA
    refine ⟨u2, g, ?_⟩
    rw [if_pos c16, vq_5 e1, vq_129 e2, if_pos rfl]
  rw [if_neg c16]
  by_cases c17 : zand v11 63 = 17
  · obtain ⟨r, u1, u2, e1, e2, g⟩ := st_fight hA x1 x2 b1 b2
    refine ⟨u2, g, ?_⟩
    rw [if_pos c17, h1, h2, vq_5 e1, h1, h2, vq_129 e2, if_pos rfl]
  rw [if_neg c17]
  by_cases c18 : zand v11 63 = 18
  · obtain ⟨r, u1, u2, e1, e2, g⟩ := st_order hA x1 b1
    refine ⟨u2, g, ?_⟩
    rw [if_pos c18, h1, vq_5 e1, h1, vq_129 e2, if_pos rfl]
  rw [if_neg c18]
  by_cases c19 : zand v11 63 = 19
  · obtain ⟨r, u1, u2, e1, e2, g⟩ := st_said hA x1 x2 x3 b1 b2 b3
    refine ⟨u2, g, ?_⟩
    rw [if_pos c19, h1, h2, h3, vq_5 e1, h1, h2, h3, vq_129 e2, if_pos zcmp_r]
  rw [if_neg c19]
  by_cases c20 : zand v11 63 = 20
  · obtain ⟨r, u1, u2, e1, e2, g⟩ := st_whose hA x1 b1
    refine ⟨u2, g, ?_⟩
    rw [if_pos c20, h1, vq_5 e1, h1, vq_129 e2, if_pos rfl]
  rw [if_neg c20]
  by_cases c21 : zand v11 63 = 21
  · obtain ⟨r, u1, u2, e1, e2, g⟩ := st_learnt hA x1 x2 b1 b2
    refine ⟨u2, g, ?_⟩
    rw [if_pos c21, h1, h2, vq_5 e1, h1, h2, vq_129 e2, if_pos rfl]
  rw [if_neg c21]
  by_cases c22 : zand v11 63 = 22
  · obtain ⟨r, u1, u2, e1, e2, g⟩ := st_asleep hA x1 x2 b1 b2
    refine ⟨u2, g, ?_⟩
    rw [if_pos c22, h1, h2, vq_5 e1, h1, h2, vq_129 e2, if_pos rfl]
  rw [if_neg c22]
  by_cases c23 : zand v11 63 = 23
  · obtain ⟨r, u1, u2, e1, e2, g⟩ := st_ask hA x1 b1
    refine ⟨u2, g, ?_⟩
    rw [if_pos c23, h1, vq_5 e1, h1, vq_129 e2, if_pos rfl]
  rw [if_neg c23]
  by_cases c24 : zand v11 63 = 24
  · obtain ⟨r, u1, u2, e1, e2, g⟩ := st_years hA x1 x2 b1 b2
    refine ⟨u2, g, ?_⟩
    rw [if_pos c24, h1, h2, vq_5 e1, h1, h2, vq_129 e2, if_pos rfl]
  rw [if_neg c24]
  by_cases c25 : zand v11 63 = 25
  · obtain ⟨r, u1, u2, e1, e2, g⟩ := st_undo hA
    refine ⟨u2, g, ?_⟩
    rw [if_pos c25, vq_5 e1, vq_129 e2, if_pos rfl]
  rw [if_neg c25]
  by_cases c26 : zand v11 63 = 26
  · obtain ⟨r, u1, u2, e1, e2, g⟩ := st_redo hA
    refine ⟨u2, g, ?_⟩
    rw [if_pos c26, vq_5 e1, vq_129 e2, if_pos rfl]
  rw [if_neg c26]
  by_cases c27 : zand v11 63 = 27
  · obtain ⟨r, u1, u2, e1, e2, g⟩ := st_body hA x1 b1
    refine ⟨u2, g, ?_⟩
    rw [if_pos c27, h1, vq_5 e1, h1, vq_129 e2, if_pos rfl]
  rw [if_neg c27]
  by_cases c28 : zand v11 63 = 28
  · obtain ⟨r, u1, u2, e1, e2, g⟩ := st_act hA x1 x2 x3 b1 b2 b3
    refine ⟨u2, g, ?_⟩
    rw [if_pos c28, h1, h2, h3, vq_5 e1, h1, h2, h3, vq_129 e2, if_pos rfl]
  rw [if_neg c28]
  by_cases c29 : zand v11 63 = 29
  · obtain ⟨r, u1, u2, e1, e2, g⟩ := st_trace hA x1 b1
    refine ⟨u2, g, ?_⟩
    rw [if_pos c29, h1, vq_5 e1, h1, vq_129 e2, if_pos rfl]
  rw [if_neg c29]
  by_cases c30 : zand v11 63 = 30
  · obtain ⟨r, u1, u2, e1, e2, g⟩ := st_keep hA x1 x2 b1 b2
    refine ⟨u2, g, ?_⟩
    rw [if_pos c30, h1, h2, vq_5 e1, h1, h2, vq_129 e2, if_pos rfl]
  rw [if_neg c30]
  by_cases c31 : zand v11 63 = 31
  · obtain ⟨r, u1, u2, e1, e2, g⟩ := st_row hA x1 x2 x3 b1 b2 b3
    refine ⟨u2, g, ?_⟩
    rw [if_pos c31, h1, h2, h3, vq_5 e1, h1, h2, h3, vq_129 e2, if_pos rfl]
  rw [if_neg c31]
  by_cases c32 : zand v11 63 = 32
  · obtain ⟨r, u1, u2, e1, e2, g⟩ := st_put hA x1 x2 (zlor (zlsh x3 32) (zland x4 4294967295)) b1 b2
    refine ⟨u2, g, ?_⟩
    rw [if_pos c32, h1, h2, h3, h4, vq_5 e1, h1, h2, h3, h4, vq_129 e2, if_pos rfl]
  rw [if_neg c32]
  by_cases c33 : zand v11 63 = 33
  · obtain ⟨r, u1, u2, e1, e2, g⟩ := st_element hA x1 x2 b1 b2
    refine ⟨u2, g, ?_⟩
    rw [if_pos c33, h1, h2, vq_5 e1, h1, h2, vq_129 e2, if_pos zcmp_r]
  rw [if_neg c33]
  by_cases c34 : zand v11 63 = 34
  · obtain ⟨r, u1, u2, e1, e2, g⟩ := st_shift hA x1 x2 x3 x4 x5 b1 b2 b3 b4 b5
    refine ⟨u2, g, ?_⟩
    rw [if_pos c34, h1, h2, h3, h4, h5, vq_5 e1, h1, h2, h3, h4, h5, vq_129 e2, if_pos rfl]
  rw [if_neg c34]
  by_cases c35 : zand v11 63 = 35
  · obtain ⟨r, u1, u2, e1, e2, g⟩ := st_taken hA x1 x2 b1 b2
    refine ⟨u2, g, ?_⟩
    rw [if_pos c35, h1, h2, vq_5 e1, h1, h2, vq_129 e2, if_pos rfl]
  rw [if_neg c35]
  by_cases c36 : zand v11 63 = 36
  · obtain ⟨r, u1, u2, e1, e2, g⟩ := st_count hA x1 b1
    refine ⟨u2, g, ?_⟩
    rw [if_pos c36, h1, vq_5 e1, h1, vq_129 e2, if_pos rfl]
  rw [if_neg c36]
  exact ⟨u, hA, rfl⟩
