def s_L_law_b1332 (j18 : HS → Option Nat → Option Nat → Int32 → Option (HS)) (xs : Nat → Int32) (L : Nat) (S : HS) (l1 : Option Nat) (l2 : Option Nat) (l3 : Int32) : Option (HS) := j18 S l1 l2 (l3 + 7)
set_option maxHeartbeats 4000000 in
set_option maxRecDepth 100000 in
theorem w_L_law_b1332 {p : Program} {l : Launch} {e : Env} {s : State} {m : MethodId} {below : List Frame} {meth : Method} {c : Code} {b0 : Nat} {G : hG} {b : Addr} {S1 : HS} {j18 : HS → Option Nat → Option Nat → Int32 → Option (HS)} {xs : Nat → Int32} {L : Nat} {S : HS} {l1 : Option Nat} {l2 : Option Nat} {l3 : Int32} (E : hE p s m #[Value.ref b] c b0 G code RL 4 wsL_law) (hrt : meth.sig.returnType = ret) (hlk : meth.locks = false) (hXX : va_X b L xs s s.heap ∧ b < s.heap.size ∧ s.heap.size = b0) {cells slots nc ns : Nat} (hnc : 0 ≤ nc) (hns : 0 ≤ ns) (hc : cells + (0 + nc) ≤ 600000) (hs : slots + (0 + ns) ≤ 7302250) (hj18 : ∀ (S : HS) (l1 : Option Nat) (l2 : Option Nat) (l3 : Int32) (cells slots : Nat), cells + nc ≤ 600000 → slots + ns ≤ 7302250 → j18 S l1 l2 l3 = some S1 → WH p l e room_1 s m #[Value.ref b] below meth c b0 G 4 cells slots (lw_Z below #[Value.ref b] s) S 18 [(0, .ref b), (1, hrf b0 l1), (2, hrf b0 l2), (3, .int l3)] []) (hh : s_L_law_b1332 j18 xs L S l1 l2 l3 = some S1) : WH p l e room_1 s m #[Value.ref b] below meth c b0 G 4 cells slots (lw_Z below #[Value.ref b] s) S 1332 [(0, .ref b), (1, hrf b0 l1), (2, hrf b0 l2), (3, .int l3)] [] := by
  have hh : (j18 S l1 l2 (l3 + 7)) = some S1 := hh
  refine rw_iinc E (v := l3 + 7) (lv2 := [(3, .int (l3 + 7)), (0, .ref b), (1, hrf b0 l1), (2, hrf b0 l2)]) (j0 := 3) rfl rfl (by decide) (by simp [lvs, lvs2, hrf_cat]) dL_law_1332 ?_
  refine rw_goto E (tgt := 18) (by decide) dL_law_1335 ?_
  refine WH.pick [1, 2, 3, 0] rfl ?_
  exact hj18 _ _ _ _ _ _ (by omega) (by omega) hh
def s_L_law_b18 (j18 : HS → Option Nat → Option Nat → Int32 → Option (HS)) (xs : Nat → Int32) (L : Nat) (S : HS) (l1 : Option Nat) (l2 : Option Nat) (l3 : Int32) : Option (HS) := if (nI L) - 7 < l3 then (some S) else (kS xs L l3 (fun v1 => knm (v1 &&& 31) (fun v2 => if v2 = 0 then (kS xs L (l3 + 1) (fun v3 => kS xs L (l3 + 2) (fun v4 => kS xs L (l3 + 3) (fun v5 => kO S l1 11 (fun a8 => kc (s_X11_row S a8 v3 v4 v5) (fun v7 S6 => kS xs L (l3 + 1) (fun v9 => kS xs L (l3 + 2) (fun v10 => kS xs L (l3 + 3) (fun v11 => kO S6 l2 12 (fun a14 => kc (s_X12_row S6 a14 v9 v10 v11) (fun v13 S12 => if v7 = v13 then (s_L_law_b1332 j18 xs L S12 l1 l2 l3) else (none)))))))))))) else (if v2 = 1 then (kS xs L (l3 + 1) (fun v15 => kS xs L (l3 + 2) (fun v16 => kS xs L (l3 + 3) (fun v17 => kO S l1 11 (fun a20 => kc (s_X11_set S a20 v15 v16 v17) (fun v19 S18 => kS xs L (l3 + 1) (fun v21 => kS xs L (l3 + 2) (fun v22 => kS xs L (l3 + 3) (fun v23 => kO S18 l2 12 (fun a26 => kc (s_X12_set S18 a26 v21 v22 v23) (fun v25 S24 => if v19 = v25 then (s_L_law_b1332 j18 xs L S24 l1 l2 l3) else (none)))))))))))) else (if v2 = 2 then (kS xs L (l3 + 1) (fun v27 => kS xs L (l3 + 2) (fun v28 => kS xs L (l3 + 3) (fun v29 => kS xs L (l3 + 4) (fun v30 => kS xs L (l3 + 5) (fun v31 => kO S l1 11 (fun a34 => kc (s_X11_copy S a34 v27 v28 v29 v30 v31) (fun v33 S32 => kS xs L (l3 + 1) (fun v35 => kS xs L (l3 + 2) (fun v36 => kS xs L (l3 + 3) (fun v37 => kS xs L (l3 + 4) (fun v38 => kS xs L (l3 + 5) (fun v39 => kO S32 l2 12 (fun a42 => kc (s_X12_copy S32 a42 v35 v36 v37 v38 v39) (fun v41 S40 => if v33 = v41 then (s_L_law_b1332 j18 xs L S40 l1 l2 l3) else (none)))))))))))))))) else (if v2 = 3 then (kS xs L (l3 + 1) (fun v43 => kO S l1 11 (fun a46 => kc (s_X11_drop S a46 v43) (fun v45 S44 => kS xs L (l3 + 1) (fun v47 => kO S44 l2 12 (fun a50 => kc (s_X12_drop S44 a50 v47) (fun v49 S48 => if v45 = v49 then (s_L_law_b1332 j18 xs L S48 l1 l2 l3) else (none)))))))) else (if v2 = 4 then (kS xs L (l3 + 1) (fun v51 => kS xs L (l3 + 2) (fun v52 => kS xs L (l3 + 3) (fun v53 => kO S l1 11 (fun a56 => kc (s_X11_feed S a56 ((v51.toInt64 <<< ((32 : Int32).toInt64 &&& 63)) ||| (v52.toInt64 &&& 4294967295)) v53) (fun v55 S54 => kS xs L (l3 + 1) (fun v57 => kS xs L (l3 + 2) (fun v58 => kS xs L (l3 + 3) (fun v59 => kO S54 l2 12 (fun a62 => kc (s_X12_feed S54 a62 ((v57.toInt64 <<< ((32 : Int32).toInt64 &&& 63)) ||| (v58.toInt64 &&& 4294967295)) v59) (fun v61 S60 => if v55 = v61 then (s_L_law_b1332 j18 xs L S60 l1 l2 l3) else (none)))))))))))) else (if v2 = 5 then (kO S l1 11 (fun a65 => kc (s_X11_box S a65 ) (fun v64 S63 => kO S63 l2 12 (fun a68 => kc (s_X12_box S63 a68 ) (fun v67 S66 => if v64 = v67 then (s_L_law_b1332 j18 xs L S66 l1 l2 l3) else (none)))))) else (if v2 = 6 then (kO S l1 11 (fun a71 => kc (s_X11_fault S a71 ) (fun v70 S69 => kO S69 l2 12 (fun a74 => kc (s_X12_fault S69 a74 ) (fun v73 S72 => if v70 = v73 then (s_L_law_b1332 j18 xs L S72 l1 l2 l3) else (none)))))) else (if v2 = 7 then (kS xs L (l3 + 1) (fun v75 => kS xs L (l3 + 2) (fun v76 => kS xs L (l3 + 3) (fun v77 => kO S l1 11 (fun a80 => kc (s_X11_shorter S a80 v75 v76 v77) (fun v79 S78 => kS xs L (l3 + 1) (fun v81 => kS xs L (l3 + 2) (fun v82 => kS xs L (l3 + 3) (fun v83 => kO S78 l2 12 (fun a86 => kc (s_X12_shorter S78 a86 v81 v82 v83) (fun v85 S84 => if v79 = v85 then (s_L_law_b1332 j18 xs L S84 l1 l2 l3) else (none)))))))))))) else (if v2 = 8 then (kS xs L (l3 + 1) (fun v87 => kS xs L (l3 + 2) (fun v88 => kS xs L (l3 + 3) (fun v89 => kS xs L (l3 + 4) (fun v90 => kO S l1 11 (fun a93 => kc (s_X11_begin S a93 v87 v88 v89 v90) (fun v92 S91 => kS xs L (l3 + 1) (fun v94 => kS xs L (l3 + 2) (fun v95 => kS xs L (l3 + 3) (fun v96 => kS xs L (l3 + 4) (fun v97 => kO S91 l2 12 (fun a100 => kc (s_X12_begin S91 a100 v94 v95 v96 v97) (fun v99 S98 => if v92 = v99 then (s_L_law_b1332 j18 xs L S98 l1 l2 l3) else (none)))))))))))))) else (if v2 = 9 then (kS xs L (l3 + 1) (fun v101 => kO S l1 11 (fun a104 => kc (s_X11_go S a104 v101) (fun v103 S102 => kS xs L (l3 + 1) (fun v105 => kO S102 l2 12 (fun a108 => kc (s_X12_go S102 a108 v105) (fun v107 S106 => if v103 = v107 then (s_L_law_b1332 j18 xs L S106 l1 l2 l3) else (none)))))))) else (if v2 = 10 then (kS xs L (l3 + 1) (fun v109 => kS xs L (l3 + 2) (fun v110 => kS xs L (l3 + 3) (fun v111 => kO S l1 11 (fun a114 => kc (s_X11_pulls S a114 v109 v110 v111) (fun v113 S112 => kS xs L (l3 + 1) (fun v115 => kS xs L (l3 + 2) (fun v116 => kS xs L (l3 + 3) (fun v117 => kO S112 l2 12 (fun a120 => kc (s_X12_pulls S112 a120 v115 v116 v117) (fun v119 S118 => if v113 = v119 then (s_L_law_b1332 j18 xs L S118 l1 l2 l3) else (none)))))))))))) else (if v2 = 11 then (kS xs L (l3 + 1) (fun v121 => kO S l1 11 (fun a124 => kc (s_X11_now S a124 v121) (fun v123 S122 => kS xs L (l3 + 1) (fun v125 => kO S122 l2 12 (fun a128 => kc (s_X12_now S122 a128 v125) (fun v127 S126 => if v123 = v127 then (s_L_law_b1332 j18 xs L S126 l1 l2 l3) else (none)))))))) else (if v2 = 12 then (kS xs L (l3 + 1) (fun v129 => kS xs L (l3 + 2) (fun v130 => kS xs L (l3 + 3) (fun v131 => kS xs L (l3 + 4) (fun v132 => kS xs L (l3 + 5) (fun v133 => kS xs L (l3 + 6) (fun v134 => kO S l1 11 (fun a137 => kc (s_X11_greatest S a137 v129 v130 v131 v132 v133 v134) (fun v136 S135 => kS xs L (l3 + 1) (fun v138 => kS xs L (l3 + 2) (fun v139 => kS xs L (l3 + 3) (fun v140 => kS xs L (l3 + 4) (fun v141 => kS xs L (l3 + 5) (fun v142 => kS xs L (l3 + 6) (fun v143 => kO S135 l2 12 (fun a146 => kc (s_X12_greatest S135 a146 v138 v139 v140 v141 v142 v143) (fun v145 S144 => if v136 = v145 then (s_L_law_b1332 j18 xs L S144 l1 l2 l3) else (none)))))))))))))))))) else (if v2 = 13 then (kS xs L (l3 + 1) (fun v147 => kS xs L (l3 + 2) (fun v148 => kS xs L (l3 + 3) (fun v149 => kO S l1 11 (fun a152 => kc (s_X11_best S a152 v147 v148 v149) (fun v151 S150 => kS xs L (l3 + 1) (fun v153 => kS xs L (l3 + 2) (fun v154 => kS xs L (l3 + 3) (fun v155 => kO S150 l2 12 (fun a158 => kc (s_X12_best S150 a158 v153 v154 v155) (fun v157 S156 => if v151 = v157 then (s_L_law_b1332 j18 xs L S156 l1 l2 l3) else (none)))))))))))) else (if v2 = 14 then (kS xs L (l3 + 1) (fun v159 => kS xs L (l3 + 2) (fun v160 => kS xs L (l3 + 3) (fun v161 => kS xs L (l3 + 4) (fun v162 => kS xs L (l3 + 5) (fun v163 => kO S l1 11 (fun a166 => kc (s_X11_from S a166 v159 v160 v161 v162 v163) (fun v165 S164 => kS xs L (l3 + 1) (fun v167 => kS xs L (l3 + 2) (fun v168 => kS xs L (l3 + 3) (fun v169 => kS xs L (l3 + 4) (fun v170 => kS xs L (l3 + 5) (fun v171 => kO S164 l2 12 (fun a174 => kc (s_X12_from S164 a174 v167 v168 v169 v170 v171) (fun v173 S172 => if v165 = v173 then (s_L_law_b1332 j18 xs L S172 l1 l2 l3) else (none)))))))))))))))) else (if v2 = 15 then (kS xs L (l3 + 1) (fun v175 => kS xs L (l3 + 2) (fun v176 => kS xs L (l3 + 3) (fun v177 => kS xs L (l3 + 4) (fun v178 => kS xs L (l3 + 5) (fun v179 => kO S l1 11 (fun a182 => kc (s_X11_late S a182 v175 v176 v177 v178 v179) (fun v181 S180 => kS xs L (l3 + 1) (fun v183 => kS xs L (l3 + 2) (fun v184 => kS xs L (l3 + 3) (fun v185 => kS xs L (l3 + 4) (fun v186 => kS xs L (l3 + 5) (fun v187 => kO S180 l2 12 (fun a190 => kc (s_X12_late S180 a190 v183 v184 v185 v186 v187) (fun v189 S188 => if v181 = v189 then (s_L_law_b1332 j18 xs L S188 l1 l2 l3) else (none)))))))))))))))) else (if v2 = 16 then (kS xs L (l3 + 1) (fun v191 => kS xs L (l3 + 2) (fun v192 => kS xs L (l3 + 3) (fun v193 => kS xs L (l3 + 4) (fun v194 => kS xs L (l3 + 5) (fun v195 => kO S l1 11 (fun a198 => kc (s_X11_parts S a198 v191 v192 v193 v194 v195) (fun v197 S196 => kS xs L (l3 + 1) (fun v199 => kS xs L (l3 + 2) (fun v200 => kS xs L (l3 + 3) (fun v201 => kS xs L (l3 + 4) (fun v202 => kS xs L (l3 + 5) (fun v203 => kO S196 l2 12 (fun a206 => kc (s_X12_parts S196 a206 v199 v200 v201 v202 v203) (fun v205 S204 => if v197 = v205 then (s_L_law_b1332 j18 xs L S204 l1 l2 l3) else (none)))))))))))))))) else (if v2 = 17 then (kS xs L (l3 + 1) (fun v207 => kS xs L (l3 + 2) (fun v208 => kS xs L (l3 + 3) (fun v209 => kS xs L (l3 + 4) (fun v210 => kS xs L (l3 + 5) (fun v211 => kO S l1 11 (fun a214 => kc (s_X11_lamp S a214 v207 v208 v209 v210 v211) (fun v213 S212 => kS xs L (l3 + 1) (fun v215 => kS xs L (l3 + 2) (fun v216 => kS xs L (l3 + 3) (fun v217 => kS xs L (l3 + 4) (fun v218 => kS xs L (l3 + 5) (fun v219 => kO S212 l2 12 (fun a222 => kc (s_X12_lamp S212 a222 v215 v216 v217 v218 v219) (fun v221 S220 => if v213 = v221 then (s_L_law_b1332 j18 xs L S220 l1 l2 l3) else (none)))))))))))))))) else (if v2 = 18 then (kS xs L (l3 + 1) (fun v223 => kS xs L (l3 + 2) (fun v224 => kO S l1 11 (fun a227 => kc (s_X11_wobble S a227 v223 v224) (fun v226 S225 => kS xs L (l3 + 1) (fun v228 => kS xs L (l3 + 2) (fun v229 => kO S225 l2 12 (fun a232 => kc (s_X12_wobble S225 a232 v228 v229) (fun v231 S230 => if v226 = v231 then (s_L_law_b1332 j18 xs L S230 l1 l2 l3) else (none)))))))))) else (if v2 = 19 then (kS xs L (l3 + 1) (fun v233 => kS xs L (l3 + 2) (fun v234 => kS xs L (l3 + 3) (fun v235 => kS xs L (l3 + 4) (fun v236 => kS xs L (l3 + 5) (fun v237 => kO S l1 11 (fun a240 => kc (s_X11_sound S a240 v233 v234 v235 v236 v237) (fun v239 S238 => kS xs L (l3 + 1) (fun v241 => kS xs L (l3 + 2) (fun v242 => kS xs L (l3 + 3) (fun v243 => kS xs L (l3 + 4) (fun v244 => kS xs L (l3 + 5) (fun v245 => kO S238 l2 12 (fun a248 => kc (s_X12_sound S238 a248 v241 v242 v243 v244 v245) (fun v247 S246 => if v239 = v247 then (s_L_law_b1332 j18 xs L S246 l1 l2 l3) else (none)))))))))))))))) else (if v2 = 20 then (kS xs L (l3 + 1) (fun v249 => kS xs L (l3 + 2) (fun v250 => kS xs L (l3 + 3) (fun v251 => kS xs L (l3 + 4) (fun v252 => kS xs L (l3 + 5) (fun v253 => kS xs L (l3 + 6) (fun v254 => kO S l1 11 (fun a257 => kc (s_X11_tune S a257 v249 v250 v251 v252 v253 v254) (fun v256 S255 => kS xs L (l3 + 1) (fun v258 => kS xs L (l3 + 2) (fun v259 => kS xs L (l3 + 3) (fun v260 => kS xs L (l3 + 4) (fun v261 => kS xs L (l3 + 5) (fun v262 => kS xs L (l3 + 6) (fun v263 => kO S255 l2 12 (fun a266 => kc (s_X12_tune S255 a266 v258 v259 v260 v261 v262 v263) (fun v265 S264 => if v256 = v265 then (s_L_law_b1332 j18 xs L S264 l1 l2 l3) else (none)))))))))))))))))) else (if v2 = 21 then (kO S l1 11 (fun a269 => kc (s_X11_forces S a269 ) (fun v268 S267 => kO S267 l2 12 (fun a272 => kc (s_X12_forces S267 a272 ) (fun v271 S270 => if v268 = v271 then (s_L_law_b1332 j18 xs L S270 l1 l2 l3) else (none)))))) else (if v2 = 22 then (kS xs L (l3 + 1) (fun v273 => kO S l1 11 (fun a276 => kc (s_X11_image S a276 v273) (fun v275 S274 => kS xs L (l3 + 1) (fun v277 => kO S274 l2 12 (fun a280 => kc (s_X12_image S274 a280 v277) (fun v279 S278 => if v275 = v279 then (s_L_law_b1332 j18 xs L S278 l1 l2 l3) else (none)))))))) else (if v2 = 23 then (kS xs L (l3 + 1) (fun v281 => kO S l1 11 (fun a284 => kc (s_X11_restore S a284 v281) (fun v283 S282 => kS xs L (l3 + 1) (fun v285 => kO S282 l2 12 (fun a288 => kc (s_X12_restore S282 a288 v285) (fun v287 S286 => if v283 = v287 then (s_L_law_b1332 j18 xs L S286 l1 l2 l3) else (none)))))))) else (if v2 = 24 then (kO S l1 11 (fun a291 => kc (s_X11_kind S a291 ) (fun v290 S289 => kO S289 l2 12 (fun a294 => kc (s_X12_kind S289 a294 ) (fun v293 S292 => if v290 = v293 then (s_L_law_b1332 j18 xs L S292 l1 l2 l3) else (none)))))) else (if v2 = 25 then (kS xs L (l3 + 1) (fun v295 => kO S l1 11 (fun a298 => kc (s_X11_as S a298 v295) (fun v297 S296 => kS xs L (l3 + 1) (fun v299 => kO S296 l2 12 (fun a302 => kc (s_X12_as S296 a302 v299) (fun v301 S300 => if v297 = v301 then (s_L_law_b1332 j18 xs L S300 l1 l2 l3) else (none)))))))) else (if v2 = 26 then (kS xs L (l3 + 1) (fun v303 => kO S l1 11 (fun a306 => kc (s_X11_ask S a306 v303) (fun v305 S304 => kS xs L (l3 + 1) (fun v307 => kO S304 l2 12 (fun a310 => kc (s_X12_ask S304 a310 v307) (fun v309 S308 => if v305 = v309 then (s_L_law_b1332 j18 xs L S308 l1 l2 l3) else (none)))))))) else (if v2 = 27 then (kS xs L (l3 + 1) (fun v311 => kO S l1 11 (fun a314 => kc (s_X11_trace S a314 v311) (fun v313 S312 => kS xs L (l3 + 1) (fun v315 => kO S312 l2 12 (fun a318 => kc (s_X12_trace S312 a318 v315) (fun v317 S316 => if v313 = v317 then (s_L_law_b1332 j18 xs L S316 l1 l2 l3) else (none)))))))) else (if v2 = 28 then (kS xs L (l3 + 1) (fun v319 => kO S l1 11 (fun a322 => kc (s_X11_count S a322 v319) (fun v321 S320 => kS xs L (l3 + 1) (fun v323 => kO S320 l2 12 (fun a326 => kc (s_X12_count S320 a326 v323) (fun v325 S324 => if v321 = v325 then (s_L_law_b1332 j18 xs L S324 l1 l2 l3) else (none)))))))) else (if v2 = 29 then (kO S l1 11 (fun a329 => kc (s_X11_status S a329 ) (fun v328 S327 => kO S327 l2 12 (fun a332 => kc (s_X12_status S327 a332 ) (fun v331 S330 => if v328 = v331 then (s_L_law_b1332 j18 xs L S330 l1 l2 l3) else (none)))))) else (s_L_law_b1332 j18 xs L S l1 l2 l3)))))))))))))))))))))))))))))))))
set_option maxHeartbeats 4000000 in
set_option maxRecDepth 100000 in
theorem w_L_law_b18 {p : Program} {l : Launch} {e : Env} {s : State} {m : MethodId} {below : List Frame} {meth : Method} {c : Code} {b0 : Nat} {G : hG} {b : Addr} {S1 : HS} {j18 : HS → Option Nat → Option Nat → Int32 → Option (HS)} {xs : Nat → Int32} {L : Nat} {S : HS} {l1 : Option Nat} {l2 : Option Nat} {l3 : Int32} (E : hE p s m #[Value.ref b] c b0 G code RL 4 wsL_law) (hrt : meth.sig.returnType = ret) (hlk : meth.locks = false) (hXX : va_X b L xs s s.heap ∧ b < s.heap.size ∧ s.heap.size = b0) {cells slots nc ns : Nat} (hnc : 0 ≤ nc) (hns : 0 ≤ ns) (hc : cells + (76 + nc) ≤ 600000) (hs : slots + (300 + ns) ≤ 7302250) (hj18 : ∀ (S : HS) (l1 : Option Nat) (l2 : Option Nat) (l3 : Int32) (cells slots : Nat), cells + nc ≤ 600000 → slots + ns ≤ 7302250 → j18 S l1 l2 l3 = some S1 → WH p l e room_1 s m #[Value.ref b] below meth c b0 G 4 cells slots (lw_Z below #[Value.ref b] s) S 18 [(0, .ref b), (1, hrf b0 l1), (2, hrf b0 l2), (3, .int l3)] []) (hh : s_L_law_b18 j18 xs L S l1 l2 l3 = some S1) : WH p l e room_1 s m #[Value.ref b] below meth c b0 G 4 cells slots (lw_Z below #[Value.ref b] s) S 18 [(0, .ref b), (1, hrf b0 l1), (2, hrf b0 l2), (3, .int l3)] [] := by
  have hh : (if (nI L) - 7 < l3 then (some S) else (kS xs L l3 (fun v1 => knm (v1 &&& 31) (fun v2 => if v2 = 0 then (kS xs L (l3 + 1) (fun v3 => kS xs L (l3 + 2) (fun v4 => kS xs L (l3 + 3) (fun v5 => kO S l1 11 (fun a8 => kc (s_X11_row S a8 v3 v4 v5) (fun v7 S6 => kS xs L (l3 + 1) (fun v9 => kS xs L (l3 + 2) (fun v10 => kS xs L (l3 + 3) (fun v11 => kO S6 l2 12 (fun a14 => kc (s_X12_row S6 a14 v9 v10 v11) (fun v13 S12 => if v7 = v13 then (s_L_law_b1332 j18 xs L S12 l1 l2 l3) else (none)))))))))))) else (if v2 = 1 then (kS xs L (l3 + 1) (fun v15 => kS xs L (l3 + 2) (fun v16 => kS xs L (l3 + 3) (fun v17 => kO S l1 11 (fun a20 => kc (s_X11_set S a20 v15 v16 v17) (fun v19 S18 => kS xs L (l3 + 1) (fun v21 => kS xs L (l3 + 2) (fun v22 => kS xs L (l3 + 3) (fun v23 => kO S18 l2 12 (fun a26 => kc (s_X12_set S18 a26 v21 v22 v23) (fun v25 S24 => if v19 = v25 then (s_L_law_b1332 j18 xs L S24 l1 l2 l3) else (none)))))))))))) else (if v2 = 2 then (kS xs L (l3 + 1) (fun v27 => kS xs L (l3 + 2) (fun v28 => kS xs L (l3 + 3) (fun v29 => kS xs L (l3 + 4) (fun v30 => kS xs L (l3 + 5) (fun v31 => kO S l1 11 (fun a34 => kc (s_X11_copy S a34 v27 v28 v29 v30 v31) (fun v33 S32 => kS xs L (l3 + 1) (fun v35 => kS xs L (l3 + 2) (fun v36 => kS xs L (l3 + 3) (fun v37 => kS xs L (l3 + 4) (fun v38 => kS xs L (l3 + 5) (fun v39 => kO S32 l2 12 (fun a42 => kc (s_X12_copy S32 a42 v35 v36 v37 v38 v39) (fun v41 S40 => if v33 = v41 then (s_L_law_b1332 j18 xs L S40 l1 l2 l3) else (none)))))))))))))))) else (if v2 = 3 then (kS xs L (l3 + 1) (fun v43 => kO S l1 11 (fun a46 => kc (s_X11_drop S a46 v43) (fun v45 S44 => kS xs L (l3 + 1) (fun v47 => kO S44 l2 12 (fun a50 => kc (s_X12_drop S44 a50 v47) (fun v49 S48 => if v45 = v49 then (s_L_law_b1332 j18 xs L S48 l1 l2 l3) else (none)))))))) else (if v2 = 4 then (kS xs L (l3 + 1) (fun v51 => kS xs L (l3 + 2) (fun v52 => kS xs L (l3 + 3) (fun v53 => kO S l1 11 (fun a56 => kc (s_X11_feed S a56 ((v51.toInt64 <<< ((32 : Int32).toInt64 &&& 63)) ||| (v52.toInt64 &&& 4294967295)) v53) (fun v55 S54 => kS xs L (l3 + 1) (fun v57 => kS xs L (l3 + 2) (fun v58 => kS xs L (l3 + 3) (fun v59 => kO S54 l2 12 (fun a62 => kc (s_X12_feed S54 a62 ((v57.toInt64 <<< ((32 : Int32).toInt64 &&& 63)) ||| (v58.toInt64 &&& 4294967295)) v59) (fun v61 S60 => if v55 = v61 then (s_L_law_b1332 j18 xs L S60 l1 l2 l3) else (none)))))))))))) else (if v2 = 5 then (kO S l1 11 (fun a65 => kc (s_X11_box S a65 ) (fun v64 S63 => kO S63 l2 12 (fun a68 => kc (s_X12_box S63 a68 ) (fun v67 S66 => if v64 = v67 then (s_L_law_b1332 j18 xs L S66 l1 l2 l3) else (none)))))) else (if v2 = 6 then (kO S l1 11 (fun a71 => kc (s_X11_fault S a71 ) (fun v70 S69 => kO S69 l2 12 (fun a74 => kc (s_X12_fault S69 a74 ) (fun v73 S72 => if v70 = v73 then (s_L_law_b1332 j18 xs L S72 l1 l2 l3) else (none)))))) else (if v2 = 7 then (kS xs L (l3 + 1) (fun v75 => kS xs L (l3 + 2) (fun v76 => kS xs L (l3 + 3) (fun v77 => kO S l1 11 (fun a80 => kc (s_X11_shorter S a80 v75 v76 v77) (fun v79 S78 => kS xs L (l3 + 1) (fun v81 => kS xs L (l3 + 2) (fun v82 => kS xs L (l3 + 3) (fun v83 => kO S78 l2 12 (fun a86 => kc (s_X12_shorter S78 a86 v81 v82 v83) (fun v85 S84 => if v79 = v85 then (s_L_law_b1332 j18 xs L S84 l1 l2 l3) else (none)))))))))))) else (if v2 = 8 then (kS xs L (l3 + 1) (fun v87 => kS xs L (l3 + 2) (fun v88 => kS xs L (l3 + 3) (fun v89 => kS xs L (l3 + 4) (fun v90 => kO S l1 11 (fun a93 => kc (s_X11_begin S a93 v87 v88 v89 v90) (fun v92 S91 => kS xs L (l3 + 1) (fun v94 => kS xs L (l3 + 2) (fun v95 => kS xs L (l3 + 3) (fun v96 => kS xs L (l3 + 4) (fun v97 => kO S91 l2 12 (fun a100 => kc (s_X12_begin S91 a100 v94 v95 v96 v97) (fun v99 S98 => if v92 = v99 then (s_L_law_b1332 j18 xs L S98 l1 l2 l3) else (none)))))))))))))) else (if v2 = 9 then (kS xs L (l3 + 1) (fun v101 => kO S l1 11 (fun a104 => kc (s_X11_go S a104 v101) (fun v103 S102 => kS xs L (l3 + 1) (fun v105 => kO S102 l2 12 (fun a108 => kc (s_X12_go S102 a108 v105) (fun v107 S106 => if v103 = v107 then (s_L_law_b1332 j18 xs L S106 l1 l2 l3) else (none)))))))) else (if v2 = 10 then (kS xs L (l3 + 1) (fun v109 => kS xs L (l3 + 2) (fun v110 => kS xs L (l3 + 3) (fun v111 => kO S l1 11 (fun a114 => kc (s_X11_pulls S a114 v109 v110 v111) (fun v113 S112 => kS xs L (l3 + 1) (fun v115 => kS xs L (l3 + 2) (fun v116 => kS xs L (l3 + 3) (fun v117 => kO S112 l2 12 (fun a120 => kc (s_X12_pulls S112 a120 v115 v116 v117) (fun v119 S118 => if v113 = v119 then (s_L_law_b1332 j18 xs L S118 l1 l2 l3) else (none)))))))))))) else (if v2 = 11 then (kS xs L (l3 + 1) (fun v121 => kO S l1 11 (fun a124 => kc (s_X11_now S a124 v121) (fun v123 S122 => kS xs L (l3 + 1) (fun v125 => kO S122 l2 12 (fun a128 => kc (s_X12_now S122 a128 v125) (fun v127 S126 => if v123 = v127 then (s_L_law_b1332 j18 xs L S126 l1 l2 l3) else (none)))))))) else (if v2 = 12 then (kS xs L (l3 + 1) (fun v129 => kS xs L (l3 + 2) (fun v130 => kS xs L (l3 + 3) (fun v131 => kS xs L (l3 + 4) (fun v132 => kS xs L (l3 + 5) (fun v133 => kS xs L (l3 + 6) (fun v134 => kO S l1 11 (fun a137 => kc (s_X11_greatest S a137 v129 v130 v131 v132 v133 v134) (fun v136 S135 => kS xs L (l3 + 1) (fun v138 => kS xs L (l3 + 2) (fun v139 => kS xs L (l3 + 3) (fun v140 => kS xs L (l3 + 4) (fun v141 => kS xs L (l3 + 5) (fun v142 => kS xs L (l3 + 6) (fun v143 => kO S135 l2 12 (fun a146 => kc (s_X12_greatest S135 a146 v138 v139 v140 v141 v142 v143) (fun v145 S144 => if v136 = v145 then (s_L_law_b1332 j18 xs L S144 l1 l2 l3) else (none)))))))))))))))))) else (if v2 = 13 then (kS xs L (l3 + 1) (fun v147 => kS xs L (l3 + 2) (fun v148 => kS xs L (l3 + 3) (fun v149 => kO S l1 11 (fun a152 => kc (s_X11_best S a152 v147 v148 v149) (fun v151 S150 => kS xs L (l3 + 1) (fun v153 => kS xs L (l3 + 2) (fun v154 => kS xs L (l3 + 3) (fun v155 => kO S150 l2 12 (fun a158 => kc (s_X12_best S150 a158 v153 v154 v155) (fun v157 S156 => if v151 = v157 then (s_L_law_b1332 j18 xs L S156 l1 l2 l3) else (none)))))))))))) else (if v2 = 14 then (kS xs L (l3 + 1) (fun v159 => kS xs L (l3 + 2) (fun v160 => kS xs L (l3 + 3) (fun v161 => kS xs L (l3 + 4) (fun v162 => kS xs L (l3 + 5) (fun v163 => kO S l1 11 (fun a166 => kc (s_X11_from S a166 v159 v160 v161 v162 v163) (fun v165 S164 => kS xs L (l3 + 1) (fun v167 => kS xs L (l3 + 2) (fun v168 => kS xs L (l3 + 3) (fun v169 => kS xs L (l3 + 4) (fun v170 => kS xs L (l3 + 5) (fun v171 => kO S164 l2 12 (fun a174 => kc (s_X12_from S164 a174 v167 v168 v169 v170 v171) (fun v173 S172 => if v165 = v173 then (s_L_law_b1332 j18 xs L S172 l1 l2 l3) else (none)))))))))))))))) else (if v2 = 15 then (kS xs L (l3 + 1) (fun v175 => kS xs L (l3 + 2) (fun v176 => kS xs L (l3 + 3) (fun v177 => kS xs L (l3 + 4) (fun v178 => kS xs L (l3 + 5) (fun v179 => kO S l1 11 (fun a182 => kc (s_X11_late S a182 v175 v176 v177 v178 v179) (fun v181 S180 => kS xs L (l3 + 1) (fun v183 => kS xs L (l3 + 2) (fun v184 => kS xs L (l3 + 3) (fun v185 => kS xs L (l3 + 4) (fun v186 => kS xs L (l3 + 5) (fun v187 => kO S180 l2 12 (fun a190 => kc (s_X12_late S180 a190 v183 v184 v185 v186 v187) (fun v189 S188 => if v181 = v189 then (s_L_law_b1332 j18 xs L S188 l1 l2 l3) else (none)))))))))))))))) else (if v2 = 16 then (kS xs L (l3 + 1) (fun v191 => kS xs L (l3 + 2) (fun v192 => kS xs L (l3 + 3) (fun v193 => kS xs L (l3 + 4) (fun v194 => kS xs L (l3 + 5) (fun v195 => kO S l1 11 (fun a198 => kc (s_X11_parts S a198 v191 v192 v193 v194 v195) (fun v197 S196 => kS xs L (l3 + 1) (fun v199 => kS xs L (l3 + 2) (fun v200 => kS xs L (l3 + 3) (fun v201 => kS xs L (l3 + 4) (fun v202 => kS xs L (l3 + 5) (fun v203 => kO S196 l2 12 (fun a206 => kc (s_X12_parts S196 a206 v199 v200 v201 v202 v203) (fun v205 S204 => if v197 = v205 then (s_L_law_b1332 j18 xs L S204 l1 l2 l3) else (none)))))))))))))))) else (if v2 = 17 then (kS xs L (l3 + 1) (fun v207 => kS xs L (l3 + 2) (fun v208 => kS xs L (l3 + 3) (fun v209 => kS xs L (l3 + 4) (fun v210 => kS xs L (l3 + 5) (fun v211 => kO S l1 11 (fun a214 => kc (s_X11_lamp S a214 v207 v208 v209 v210 v211) (fun v213 S212 => kS xs L (l3 + 1) (fun v215 => kS xs L (l3 + 2) (fun v216 => kS xs L (l3 + 3) (fun v217 => kS xs L (l3 + 4) (fun v218 => kS xs L (l3 + 5) (fun v219 => kO S212 l2 12 (fun a222 => kc (s_X12_lamp S212 a222 v215 v216 v217 v218 v219) (fun v221 S220 => if v213 = v221 then (s_L_law_b1332 j18 xs L S220 l1 l2 l3) else (none)))))))))))))))) else (if v2 = 18 then (kS xs L (l3 + 1) (fun v223 => kS xs L (l3 + 2) (fun v224 => kO S l1 11 (fun a227 => kc (s_X11_wobble S a227 v223 v224) (fun v226 S225 => kS xs L (l3 + 1) (fun v228 => kS xs L (l3 + 2) (fun v229 => kO S225 l2 12 (fun a232 => kc (s_X12_wobble S225 a232 v228 v229) (fun v231 S230 => if v226 = v231 then (s_L_law_b1332 j18 xs L S230 l1 l2 l3) else (none)))))))))) else (if v2 = 19 then (kS xs L (l3 + 1) (fun v233 => kS xs L (l3 + 2) (fun v234 => kS xs L (l3 + 3) (fun v235 => kS xs L (l3 + 4) (fun v236 => kS xs L (l3 + 5) (fun v237 => kO S l1 11 (fun a240 => kc (s_X11_sound S a240 v233 v234 v235 v236 v237) (fun v239 S238 => kS xs L (l3 + 1) (fun v241 => kS xs L (l3 + 2) (fun v242 => kS xs L (l3 + 3) (fun v243 => kS xs L (l3 + 4) (fun v244 => kS xs L (l3 + 5) (fun v245 => kO S238 l2 12 (fun a248 => kc (s_X12_sound S238 a248 v241 v242 v243 v244 v245) (fun v247 S246 => if v239 = v247 then (s_L_law_b1332 j18 xs L S246 l1 l2 l3) else (none)))))))))))))))) else (if v2 = 20 then (kS xs L (l3 + 1) (fun v249 => kS xs L (l3 + 2) (fun v250 => kS xs L (l3 + 3) (fun v251 => kS xs L (l3 + 4) (fun v252 => kS xs L (l3 + 5) (fun v253 => kS xs L (l3 + 6) (fun v254 => kO S l1 11 (fun a257 => kc (s_X11_tune S a257 v249 v250 v251 v252 v253 v254) (fun v256 S255 => kS xs L (l3 + 1) (fun v258 => kS xs L (l3 + 2) (fun v259 => kS xs L (l3 + 3) (fun v260 => kS xs L (l3 + 4) (fun v261 => kS xs L (l3 + 5) (fun v262 => kS xs L (l3 + 6) (fun v263 => kO S255 l2 12 (fun a266 => kc (s_X12_tune S255 a266 v258 v259 v260 v261 v262 v263) (fun v265 S264 => if v256 = v265 then (s_L_law_b1332 j18 xs L S264 l1 l2 l3) else (none)))))))))))))))))) else (if v2 = 21 then (kO S l1 11 (fun a269 => kc (s_X11_forces S a269 ) (fun v268 S267 => kO S267 l2 12 (fun a272 => kc (s_X12_forces S267 a272 ) (fun v271 S270 => if v268 = v271 then (s_L_law_b1332 j18 xs L S270 l1 l2 l3) else (none)))))) else (if v2 = 22 then (kS xs L (l3 + 1) (fun v273 => kO S l1 11 (fun a276 => kc (s_X11_image S a276 v273) (fun v275 S274 => kS xs L (l3 + 1) (fun v277 => kO S274 l2 12 (fun a280 => kc (s_X12_image S274 a280 v277) (fun v279 S278 => if v275 = v279 then (s_L_law_b1332 j18 xs L S278 l1 l2 l3) else (none)))))))) else (if v2 = 23 then (kS xs L (l3 + 1) (fun v281 => kO S l1 11 (fun a284 => kc (s_X11_restore S a284 v281) (fun v283 S282 => kS xs L (l3 + 1) (fun v285 => kO S282 l2 12 (fun a288 => kc (s_X12_restore S282 a288 v285) (fun v287 S286 => if v283 = v287 then (s_L_law_b1332 j18 xs L S286 l1 l2 l3) else (none)))))))) else (if v2 = 24 then (kO S l1 11 (fun a291 => kc (s_X11_kind S a291 ) (fun v290 S289 => kO S289 l2 12 (fun a294 => kc (s_X12_kind S289 a294 ) (fun v293 S292 => if v290 = v293 then (s_L_law_b1332 j18 xs L S292 l1 l2 l3) else (none)))))) else (if v2 = 25 then (kS xs L (l3 + 1) (fun v295 => kO S l1 11 (fun a298 => kc (s_X11_as S a298 v295) (fun v297 S296 => kS xs L (l3 + 1) (fun v299 => kO S296 l2 12 (fun a302 => kc (s_X12_as S296 a302 v299) (fun v301 S300 => if v297 = v301 then (s_L_law_b1332 j18 xs L S300 l1 l2 l3) else (none)))))))) else (if v2 = 26 then (kS xs L (l3 + 1) (fun v303 => kO S l1 11 (fun a306 => kc (s_X11_ask S a306 v303) (fun v305 S304 => kS xs L (l3 + 1) (fun v307 => kO S304 l2 12 (fun a310 => kc (s_X12_ask S304 a310 v307) (fun v309 S308 => if v305 = v309 then (s_L_law_b1332 j18 xs L S308 l1 l2 l3) else (none)))))))) else (if v2 = 27 then (kS xs L (l3 + 1) (fun v311 => kO S l1 11 (fun a314 => kc (s_X11_trace S a314 v311) (fun v313 S312 => kS xs L (l3 + 1) (fun v315 => kO S312 l2 12 (fun a318 => kc (s_X12_trace S312 a318 v315) (fun v317 S316 => if v313 = v317 then (s_L_law_b1332 j18 xs L S316 l1 l2 l3) else (none)))))))) else (if v2 = 28 then (kS xs L (l3 + 1) (fun v319 => kO S l1 11 (fun a322 => kc (s_X11_count S a322 v319) (fun v321 S320 => kS xs L (l3 + 1) (fun v323 => kO S320 l2 12 (fun a326 => kc (s_X12_count S320 a326 v323) (fun v325 S324 => if v321 = v325 then (s_L_law_b1332 j18 xs L S324 l1 l2 l3) else (none)))))))) else (if v2 = 29 then (kO S l1 11 (fun a329 => kc (s_X11_status S a329 ) (fun v328 S327 => kO S327 l2 12 (fun a332 => kc (s_X12_status S327 a332 ) (fun v331 S330 => if v328 = v331 then (s_L_law_b1332 j18 xs L S330 l1 l2 l3) else (none)))))) else (s_L_law_b1332 j18 xs L S l1 l2 l3)))))))))))))))))))))))))))))))))) = some S1 := hh
  refine rw_iload_n E (j0 := 3) rfl rfl dL_law_18 ?_
  refine rw_aloadr_n E (j0 := 0) rfl rfl dL_law_19 ?_
  refine rw_slen E hXX dL_law_20 ?_
  refine rw_bipush E (v := 7) (by decide) dL_law_21 ?_
  refine rw_isub E dL_law_23 ?_
  refine rw_icmp_gt E hh (tgt := 1338) (by decide) dL_law_24 (fun hh => ?_) (fun hh => ?_)
  · refine rw_iconst E (v := 1) (by decide) dL_law_1338 ?_
    exact rw_law1 hXX hrt hlk E hh (show _ ≤ 600000 by omega) (show _ ≤ 7302250 by omega) dL_law_1339
  · refine rw_aloadr_n E (j0 := 0) rfl rfl dL_law_27 ?_
    refine rw_iload_n E (j0 := 3) rfl rfl dL_law_28 ?_
    refine rw_sld E hh hXX dL_law_29 (fun v1 hh => ?_)
    refine rw_bipush E (v := 31) (by decide) dL_law_30 ?_
    refine rw_iand E dL_law_32 ?_
    refine rw_nmi hh (fun v2 hh => ?_)
    by_cases c33_0 : v2 = 0
    · rw [if_pos c33_0] at hh
      refine rw_swin E (v := 0) (tgt := 168) dL_law_33 c33_0 (by decide) (by decide) rfl (by decide) ?_
      refine rw_aload_n E (j0 := 1) rfl rfl dL_law_168 ?_
      refine rw_aloadr_n E (j0 := 0) rfl rfl dL_law_169 ?_
      refine rw_iload_n E (j0 := 3) rfl rfl dL_law_170 ?_
      refine rw_iconst E (v := 1) (by decide) dL_law_171 ?_
      refine rw_iadd E dL_law_172 ?_
      refine rw_sld E hh hXX dL_law_173 (fun v3 hh => ?_)
      refine rw_aloadr_n E (j0 := 0) rfl rfl dL_law_174 ?_
      refine rw_iload_n E (j0 := 3) rfl rfl dL_law_175 ?_
      refine rw_iconst E (v := 2) (by decide) dL_law_176 ?_
      refine rw_iadd E dL_law_177 ?_
      refine rw_sld E hh hXX dL_law_178 (fun v4 hh => ?_)
      refine rw_aloadr_n E (j0 := 0) rfl rfl dL_law_179 ?_
      refine rw_iload_n E (j0 := 3) rfl rfl dL_law_180 ?_
      refine rw_iconst E (v := 3) (by decide) dL_law_181 ?_
      refine rw_iadd E dL_law_182 ?_
      refine rw_sld E hh hXX dL_law_183 (fun v5 hh => ?_)
      refine rw_cVi E (As := [.int v3, .int v4, .int v5]) hh (by decide) rfl (fun _ _ _ hq => c_X11_row l b0 G _ _ _ _ _ _ _ hq) (cwV 3 E.2.2.2.2.1 gL_law_X11_row rfl rfl rfl (by decide +kernel) ⟨Nat.le_of_ble_eq_true rfl, Nat.le_of_ble_eq_true rfl⟩) rfl rfl (by (try simp only [List.map_cons, List.map_nil, List.sum_cons, List.sum_nil, hrf_cat, cat_i, cat_l, cat_r]) <;> decide) ⟨(show _ ≤ 600000 by omega), (show _ ≤ 7302250 by omega)⟩ dL_law_184 (fun v7 S6 hh => ?_)
      refine rw_aload_n E (j0 := 2) rfl rfl dL_law_187 ?_
      refine rw_aloadr_n E (j0 := 0) rfl rfl dL_law_188 ?_
      refine rw_iload_n E (j0 := 3) rfl rfl dL_law_189 ?_
      refine rw_iconst E (v := 1) (by decide) dL_law_190 ?_
      refine rw_iadd E dL_law_191 ?_
      refine rw_sld E hh hXX dL_law_192 (fun v9 hh => ?_)
      refine rw_aloadr_n E (j0 := 0) rfl rfl dL_law_193 ?_
      refine rw_iload_n E (j0 := 3) rfl rfl dL_law_194 ?_
      refine rw_iconst E (v := 2) (by decide) dL_law_195 ?_
      refine rw_iadd E dL_law_196 ?_
      refine rw_sld E hh hXX dL_law_197 (fun v10 hh => ?_)
      refine rw_aloadr_n E (j0 := 0) rfl rfl dL_law_198 ?_
      refine rw_iload_n E (j0 := 3) rfl rfl dL_law_199 ?_
      refine rw_iconst E (v := 3) (by decide) dL_law_200 ?_
      refine rw_iadd E dL_law_201 ?_
      refine rw_sld E hh hXX dL_law_202 (fun v11 hh => ?_)
      refine rw_cVi E (As := [.int v9, .int v10, .int v11]) hh (by decide) rfl (fun _ _ _ hq => c_X12_row l b0 G _ _ _ _ _ _ _ hq) (cwV 3 E.2.2.2.2.1 gL_law_X12_row rfl rfl rfl (by decide +kernel) ⟨Nat.le_of_ble_eq_true rfl, Nat.le_of_ble_eq_true rfl⟩) rfl rfl (by (try simp only [List.map_cons, List.map_nil, List.sum_cons, List.sum_nil, hrf_cat, cat_i, cat_l, cat_r]) <;> decide) ⟨(show _ ≤ 600000 by omega), (show _ ≤ 7302250 by omega)⟩ dL_law_203 (fun v13 S12 hh => ?_)
      refine rw_icmp_eq E hh (tgt := 1332) (by decide) dL_law_206 (fun hh => ?_) (fun hh => ?_)
      · refine WH.pick [0, 1, 2, 3] rfl ?_
        exact w_L_law_b1332 E hrt hlk hXX hnc hns (by omega) (by omega) hj18 hh
      · refine rw_iconst E (v := 0) (by decide) dL_law_209 ?_
        cases hh
    · rw [if_neg c33_0] at hh
      by_cases c33_1 : v2 = 1
      · rw [if_pos c33_1] at hh
        refine rw_swin E (v := 1) (tgt := 211) dL_law_33 c33_1 (by decide) (by decide) rfl (by decide) ?_
        refine rw_aload_n E (j0 := 1) rfl rfl dL_law_211 ?_
        refine rw_aloadr_n E (j0 := 0) rfl rfl dL_law_212 ?_
        refine rw_iload_n E (j0 := 3) rfl rfl dL_law_213 ?_
        refine rw_iconst E (v := 1) (by decide) dL_law_214 ?_
        refine rw_iadd E dL_law_215 ?_
        refine rw_sld E hh hXX dL_law_216 (fun v15 hh => ?_)
        refine rw_aloadr_n E (j0 := 0) rfl rfl dL_law_217 ?_
        refine rw_iload_n E (j0 := 3) rfl rfl dL_law_218 ?_
        refine rw_iconst E (v := 2) (by decide) dL_law_219 ?_
        refine rw_iadd E dL_law_220 ?_
        refine rw_sld E hh hXX dL_law_221 (fun v16 hh => ?_)
        refine rw_aloadr_n E (j0 := 0) rfl rfl dL_law_222 ?_
        refine rw_iload_n E (j0 := 3) rfl rfl dL_law_223 ?_
        refine rw_iconst E (v := 3) (by decide) dL_law_224 ?_
        refine rw_iadd E dL_law_225 ?_
        refine rw_sld E hh hXX dL_law_226 (fun v17 hh => ?_)
        refine rw_cVi E (As := [.int v15, .int v16, .int v17]) hh (by decide) rfl (fun _ _ _ hq => c_X11_set l b0 G _ _ _ _ _ _ _ hq) (cwV 3 E.2.2.2.2.1 gL_law_X11_set rfl rfl rfl (by decide +kernel) ⟨Nat.le_of_ble_eq_true rfl, Nat.le_of_ble_eq_true rfl⟩) rfl rfl (by (try simp only [List.map_cons, List.map_nil, List.sum_cons, List.sum_nil, hrf_cat, cat_i, cat_l, cat_r]) <;> decide) ⟨(show _ ≤ 600000 by omega), (show _ ≤ 7302250 by omega)⟩ dL_law_227 (fun v19 S18 hh => ?_)
        refine rw_aload_n E (j0 := 2) rfl rfl dL_law_230 ?_
        refine rw_aloadr_n E (j0 := 0) rfl rfl dL_law_231 ?_
        refine rw_iload_n E (j0 := 3) rfl rfl dL_law_232 ?_
        refine rw_iconst E (v := 1) (by decide) dL_law_233 ?_
        refine rw_iadd E dL_law_234 ?_
        refine rw_sld E hh hXX dL_law_235 (fun v21 hh => ?_)
        refine rw_aloadr_n E (j0 := 0) rfl rfl dL_law_236 ?_
        refine rw_iload_n E (j0 := 3) rfl rfl dL_law_237 ?_
        refine rw_iconst E (v := 2) (by decide) dL_law_238 ?_
        refine rw_iadd E dL_law_239 ?_
        refine rw_sld E hh hXX dL_law_240 (fun v22 hh => ?_)
        refine rw_aloadr_n E (j0 := 0) rfl rfl dL_law_241 ?_
        refine rw_iload_n E (j0 := 3) rfl rfl dL_law_242 ?_
        refine rw_iconst E (v := 3) (by decide) dL_law_243 ?_
        refine rw_iadd E dL_law_244 ?_
        refine rw_sld E hh hXX dL_law_245 (fun v23 hh => ?_)
        refine rw_cVi E (As := [.int v21, .int v22, .int v23]) hh (by decide) rfl (fun _ _ _ hq => c_X12_set l b0 G _ _ _ _ _ _ _ hq) (cwV 3 E.2.2.2.2.1 gL_law_X12_set rfl rfl rfl (by decide +kernel) ⟨Nat.le_of_ble_eq_true rfl, Nat.le_of_ble_eq_true rfl⟩) rfl rfl (by (try simp only [List.map_cons, List.map_nil, List.sum_cons, List.sum_nil, hrf_cat, cat_i, cat_l, cat_r]) <;> decide) ⟨(show _ ≤ 600000 by omega), (show _ ≤ 7302250 by omega)⟩ dL_law_246 (fun v25 S24 hh => ?_)
        refine rw_icmp_eq E hh (tgt := 1332) (by decide) dL_law_249 (fun hh => ?_) (fun hh => ?_)
        · refine WH.pick [0, 1, 2, 3] rfl ?_
          exact w_L_law_b1332 E hrt hlk hXX hnc hns (by omega) (by omega) hj18 hh
        · refine rw_iconst E (v := 0) (by decide) dL_law_252 ?_
          cases hh
      · rw [if_neg c33_1] at hh
        by_cases c33_2 : v2 = 2
        · rw [if_pos c33_2] at hh
          refine rw_swin E (v := 2) (tgt := 254) dL_law_33 c33_2 (by decide) (by decide) rfl (by decide) ?_
          refine rw_aload_n E (j0 := 1) rfl rfl dL_law_254 ?_
          refine rw_aloadr_n E (j0 := 0) rfl rfl dL_law_255 ?_
          refine rw_iload_n E (j0 := 3) rfl rfl dL_law_256 ?_
          refine rw_iconst E (v := 1) (by decide) dL_law_257 ?_
          refine rw_iadd E dL_law_258 ?_
          refine rw_sld E hh hXX dL_law_259 (fun v27 hh => ?_)
          refine rw_aloadr_n E (j0 := 0) rfl rfl dL_law_260 ?_
          refine rw_iload_n E (j0 := 3) rfl rfl dL_law_261 ?_
          refine rw_iconst E (v := 2) (by decide) dL_law_262 ?_
          refine rw_iadd E dL_law_263 ?_
          refine rw_sld E hh hXX dL_law_264 (fun v28 hh => ?_)
          refine rw_aloadr_n E (j0 := 0) rfl rfl dL_law_265 ?_
          refine rw_iload_n E (j0 := 3) rfl rfl dL_law_266 ?_
          refine rw_iconst E (v := 3) (by decide) dL_law_267 ?_
          refine rw_iadd E dL_law_268 ?_
          refine rw_sld E hh hXX dL_law_269 (fun v29 hh => ?_)
          refine rw_aloadr_n E (j0 := 0) rfl rfl dL_law_270 ?_
          refine rw_iload_n E (j0 := 3) rfl rfl dL_law_271 ?_
          refine rw_iconst E (v := 4) (by decide) dL_law_272 ?_
          refine rw_iadd E dL_law_273 ?_
          refine rw_sld E hh hXX dL_law_274 (fun v30 hh => ?_)
          refine rw_aloadr_n E (j0 := 0) rfl rfl dL_law_275 ?_
          refine rw_iload_n E (j0 := 3) rfl rfl dL_law_276 ?_
          refine rw_iconst E (v := 5) (by decide) dL_law_277 ?_
          refine rw_iadd E dL_law_278 ?_
          refine rw_sld E hh hXX dL_law_279 (fun v31 hh => ?_)
          refine rw_cVi E (As := [.int v27, .int v28, .int v29, .int v30, .int v31]) hh (by decide) rfl (fun _ _ _ hq => c_X11_copy l b0 G _ _ _ _ _ _ _ _ _ hq) (cwV 5 E.2.2.2.2.1 gL_law_X11_copy rfl rfl rfl (by decide +kernel) ⟨Nat.le_of_ble_eq_true rfl, Nat.le_of_ble_eq_true rfl⟩) rfl rfl (by (try simp only [List.map_cons, List.map_nil, List.sum_cons, List.sum_nil, hrf_cat, cat_i, cat_l, cat_r]) <;> decide) ⟨(show _ ≤ 600000 by omega), (show _ ≤ 7302250 by omega)⟩ dL_law_280 (fun v33 S32 hh => ?_)
          refine rw_aload_n E (j0 := 2) rfl rfl dL_law_283 ?_
          refine rw_aloadr_n E (j0 := 0) rfl rfl dL_law_284 ?_
          refine rw_iload_n E (j0 := 3) rfl rfl dL_law_285 ?_
          refine rw_iconst E (v := 1) (by decide) dL_law_286 ?_
          refine rw_iadd E dL_law_287 ?_
          refine rw_sld E hh hXX dL_law_288 (fun v35 hh => ?_)
          refine rw_aloadr_n E (j0 := 0) rfl rfl dL_law_289 ?_
          refine rw_iload_n E (j0 := 3) rfl rfl dL_law_290 ?_
          refine rw_iconst E (v := 2) (by decide) dL_law_291 ?_
          refine rw_iadd E dL_law_292 ?_
          refine rw_sld E hh hXX dL_law_293 (fun v36 hh => ?_)
          refine rw_aloadr_n E (j0 := 0) rfl rfl dL_law_294 ?_
          refine rw_iload_n E (j0 := 3) rfl rfl dL_law_295 ?_
          refine rw_iconst E (v := 3) (by decide) dL_law_296 ?_
          refine rw_iadd E dL_law_297 ?_
          refine rw_sld E hh hXX dL_law_298 (fun v37 hh => ?_)
          refine rw_aloadr_n E (j0 := 0) rfl rfl dL_law_299 ?_
          refine rw_iload_n E (j0 := 3) rfl rfl dL_law_300 ?_
          refine rw_iconst E (v := 4) (by decide) dL_law_301 ?_
          refine rw_iadd E dL_law_302 ?_
          refine rw_sld E hh hXX dL_law_303 (fun v38 hh => ?_)
          refine rw_aloadr_n E (j0 := 0) rfl rfl dL_law_304 ?_
          refine rw_iload_n E (j0 := 3) rfl rfl dL_law_305 ?_
          refine rw_iconst E (v := 5) (by decide) dL_law_306 ?_
          refine rw_iadd E dL_law_307 ?_
          refine rw_sld E hh hXX dL_law_308 (fun v39 hh => ?_)
          refine rw_cVi E (As := [.int v35, .int v36, .int v37, .int v38, .int v39]) hh (by decide) rfl (fun _ _ _ hq => c_X12_copy l b0 G _ _ _ _ _ _ _ _ _ hq) (cwV 5 E.2.2.2.2.1 gL_law_X12_copy rfl rfl rfl (by decide +kernel) ⟨Nat.le_of_ble_eq_true rfl, Nat.le_of_ble_eq_true rfl⟩) rfl rfl (by (try simp only [List.map_cons, List.map_nil, List.sum_cons, List.sum_nil, hrf_cat, cat_i, cat_l, cat_r]) <;> decide) ⟨(show _ ≤ 600000 by omega), (show _ ≤ 7302250 by omega)⟩ dL_law_309 (fun v41 S40 hh => ?_)
          refine rw_icmp_eq E hh (tgt := 1332) (by decide) dL_law_312 (fun hh => ?_) (fun hh => ?_)
          · refine WH.pick [0, 1, 2, 3] rfl ?_
            exact w_L_law_b1332 E hrt hlk hXX hnc hns (by omega) (by omega) hj18 hh
          · refine rw_iconst E (v := 0) (by decide) dL_law_315 ?_
            cases hh
        · rw [if_neg c33_2] at hh
          by_cases c33_3 : v2 = 3
          · rw [if_pos c33_3] at hh
            refine rw_swin E (v := 3) (tgt := 317) dL_law_33 c33_3 (by decide) (by decide) rfl (by decide) ?_
            refine rw_aload_n E (j0 := 1) rfl rfl dL_law_317 ?_
            refine rw_aloadr_n E (j0 := 0) rfl rfl dL_law_318 ?_
            refine rw_iload_n E (j0 := 3) rfl rfl dL_law_319 ?_
            refine rw_iconst E (v := 1) (by decide) dL_law_320 ?_
            refine rw_iadd E dL_law_321 ?_
            refine rw_sld E hh hXX dL_law_322 (fun v43 hh => ?_)
            refine rw_cVi E (As := [.int v43]) hh (by decide) rfl (fun _ _ _ hq => c_X11_drop l b0 G _ _ _ _ _ hq) (cwV 1 E.2.2.2.2.1 gL_law_X11_drop rfl rfl rfl (by decide +kernel) ⟨Nat.le_of_ble_eq_true rfl, Nat.le_of_ble_eq_true rfl⟩) rfl rfl (by (try simp only [List.map_cons, List.map_nil, List.sum_cons, List.sum_nil, hrf_cat, cat_i, cat_l, cat_r]) <;> decide) ⟨(show _ ≤ 600000 by omega), (show _ ≤ 7302250 by omega)⟩ dL_law_323 (fun v45 S44 hh => ?_)
            refine rw_aload_n E (j0 := 2) rfl rfl dL_law_326 ?_
            refine rw_aloadr_n E (j0 := 0) rfl rfl dL_law_327 ?_
            refine rw_iload_n E (j0 := 3) rfl rfl dL_law_328 ?_
            refine rw_iconst E (v := 1) (by decide) dL_law_329 ?_
            refine rw_iadd E dL_law_330 ?_
            refine rw_sld E hh hXX dL_law_331 (fun v47 hh => ?_)
            refine rw_cVi E (As := [.int v47]) hh (by decide) rfl (fun _ _ _ hq => c_X12_drop l b0 G _ _ _ _ _ hq) (cwV 1 E.2.2.2.2.1 gL_law_X12_drop rfl rfl rfl (by decide +kernel) ⟨Nat.le_of_ble_eq_true rfl, Nat.le_of_ble_eq_true rfl⟩) rfl rfl (by (try simp only [List.map_cons, List.map_nil, List.sum_cons, List.sum_nil, hrf_cat, cat_i, cat_l, cat_r]) <;> decide) ⟨(show _ ≤ 600000 by omega), (show _ ≤ 7302250 by omega)⟩ dL_law_332 (fun v49 S48 hh => ?_)
            refine rw_icmp_eq E hh (tgt := 1332) (by decide) dL_law_335 (fun hh => ?_) (fun hh => ?_)
            · refine WH.pick [0, 1, 2, 3] rfl ?_
              exact w_L_law_b1332 E hrt hlk hXX hnc hns (by omega) (by omega) hj18 hh
            · refine rw_iconst E (v := 0) (by decide) dL_law_338 ?_
              cases hh
          · rw [if_neg c33_3] at hh
            by_cases c33_4 : v2 = 4
            · rw [if_pos c33_4] at hh
              refine rw_swin E (v := 4) (tgt := 340) dL_law_33 c33_4 (by decide) (by decide) rfl (by decide) ?_
              refine rw_aload_n E (j0 := 1) rfl rfl dL_law_340 ?_
              refine rw_aloadr_n E (j0 := 0) rfl rfl dL_law_341 ?_
              refine rw_iload_n E (j0 := 3) rfl rfl dL_law_342 ?_
              refine rw_iconst E (v := 1) (by decide) dL_law_343 ?_
              refine rw_iadd E dL_law_344 ?_
              refine rw_sld E hh hXX dL_law_345 (fun v51 hh => ?_)
              refine rw_i2l E dL_law_346 ?_
              refine rw_bipush E (v := 32) (by decide) dL_law_347 ?_
              refine rw_lshl E dL_law_349 ?_
              refine rw_aloadr_n E (j0 := 0) rfl rfl dL_law_350 ?_
              refine rw_iload_n E (j0 := 3) rfl rfl dL_law_351 ?_
              refine rw_iconst E (v := 2) (by decide) dL_law_352 ?_
              refine rw_iadd E dL_law_353 ?_
              refine rw_sld E hh hXX dL_law_354 (fun v52 hh => ?_)
              refine rw_i2l E dL_law_355 ?_
              refine rw_ldc2 E (v := 4294967295) (List.mem_of_getElem? (i := 6) (by decide +kernel)) dL_law_356 ?_
              refine rw_land E dL_law_359 ?_
              refine rw_lor E dL_law_360 ?_
              refine rw_aloadr_n E (j0 := 0) rfl rfl dL_law_361 ?_
              refine rw_iload_n E (j0 := 3) rfl rfl dL_law_362 ?_
              refine rw_iconst E (v := 3) (by decide) dL_law_363 ?_
              refine rw_iadd E dL_law_364 ?_
              refine rw_sld E hh hXX dL_law_365 (fun v53 hh => ?_)
              refine rw_cVi E (As := [.long ((v51.toInt64 <<< ((32 : Int32).toInt64 &&& 63)) ||| (v52.toInt64 &&& 4294967295)), .int v53]) hh (by decide) rfl (fun _ _ _ hq => c_X11_feed l b0 G _ _ _ _ _ _ hq) (cwV 2 E.2.2.2.2.1 gL_law_X11_feed rfl rfl rfl (by decide +kernel) ⟨Nat.le_of_ble_eq_true rfl, Nat.le_of_ble_eq_true rfl⟩) rfl rfl (by (try simp only [List.map_cons, List.map_nil, List.sum_cons, List.sum_nil, hrf_cat, cat_i, cat_l, cat_r]) <;> decide) ⟨(show _ ≤ 600000 by omega), (show _ ≤ 7302250 by omega)⟩ dL_law_366 (fun v55 S54 hh => ?_)
              refine rw_aload_n E (j0 := 2) rfl rfl dL_law_369 ?_
              refine rw_aloadr_n E (j0 := 0) rfl rfl dL_law_370 ?_
              refine rw_iload_n E (j0 := 3) rfl rfl dL_law_371 ?_
              refine rw_iconst E (v := 1) (by decide) dL_law_372 ?_
              refine rw_iadd E dL_law_373 ?_
              refine rw_sld E hh hXX dL_law_374 (fun v57 hh => ?_)
              refine rw_i2l E dL_law_375 ?_
              refine rw_bipush E (v := 32) (by decide) dL_law_376 ?_
              refine rw_lshl E dL_law_378 ?_
              refine rw_aloadr_n E (j0 := 0) rfl rfl dL_law_379 ?_
              refine rw_iload_n E (j0 := 3) rfl rfl dL_law_380 ?_
              refine rw_iconst E (v := 2) (by decide) dL_law_381 ?_
              refine rw_iadd E dL_law_382 ?_
              refine rw_sld E hh hXX dL_law_383 (fun v58 hh => ?_)
              refine rw_i2l E dL_law_384 ?_
              refine rw_ldc2 E (v := 4294967295) (List.mem_of_getElem? (i := 6) (by decide +kernel)) dL_law_385 ?_
              refine rw_land E dL_law_388 ?_
              refine rw_lor E dL_law_389 ?_
              refine rw_aloadr_n E (j0 := 0) rfl rfl dL_law_390 ?_
              refine rw_iload_n E (j0 := 3) rfl rfl dL_law_391 ?_
              refine rw_iconst E (v := 3) (by decide) dL_law_392 ?_
              refine rw_iadd E dL_law_393 ?_
              refine rw_sld E hh hXX dL_law_394 (fun v59 hh => ?_)
              refine rw_cVi E (As := [.long ((v57.toInt64 <<< ((32 : Int32).toInt64 &&& 63)) ||| (v58.toInt64 &&& 4294967295)), .int v59]) hh (by decide) rfl (fun _ _ _ hq => c_X12_feed l b0 G _ _ _ _ _ _ hq) (cwV 2 E.2.2.2.2.1 gL_law_X12_feed rfl rfl rfl (by decide +kernel) ⟨Nat.le_of_ble_eq_true rfl, Nat.le_of_ble_eq_true rfl⟩) rfl rfl (by (try simp only [List.map_cons, List.map_nil, List.sum_cons, List.sum_nil, hrf_cat, cat_i, cat_l, cat_r]) <;> decide) ⟨(show _ ≤ 600000 by omega), (show _ ≤ 7302250 by omega)⟩ dL_law_395 (fun v61 S60 hh => ?_)
              refine rw_icmp_eq E hh (tgt := 1332) (by decide) dL_law_398 (fun hh => ?_) (fun hh => ?_)
              · refine WH.pick [0, 1, 2, 3] rfl ?_
                exact w_L_law_b1332 E hrt hlk hXX hnc hns (by omega) (by omega) hj18 hh
              · refine rw_iconst E (v := 0) (by decide) dL_law_401 ?_
                cases hh
            · rw [if_neg c33_4] at hh
              by_cases c33_5 : v2 = 5
              · rw [if_pos c33_5] at hh
                refine rw_swin E (v := 5) (tgt := 403) dL_law_33 c33_5 (by decide) (by decide) rfl (by decide) ?_
                refine rw_aload_n E (j0 := 1) rfl rfl dL_law_403 ?_
                refine rw_cVi E (As := []) hh (by decide) rfl (fun _ _ _ hq => c_X11_box l b0 G _ _ _ _ hq) (cwV 0 E.2.2.2.2.1 gL_law_X11_box rfl rfl rfl (by decide +kernel) ⟨Nat.le_of_ble_eq_true rfl, Nat.le_of_ble_eq_true rfl⟩) rfl rfl (by (try simp only [List.map_cons, List.map_nil, List.sum_cons, List.sum_nil, hrf_cat, cat_i, cat_l, cat_r]) <;> decide) ⟨(show _ ≤ 600000 by omega), (show _ ≤ 7302250 by omega)⟩ dL_law_404 (fun v64 S63 hh => ?_)
                refine rw_aload_n E (j0 := 2) rfl rfl dL_law_407 ?_
                refine rw_cVi E (As := []) hh (by decide) rfl (fun _ _ _ hq => c_X12_box l b0 G _ _ _ _ hq) (cwV 0 E.2.2.2.2.1 gL_law_X12_box rfl rfl rfl (by decide +kernel) ⟨Nat.le_of_ble_eq_true rfl, Nat.le_of_ble_eq_true rfl⟩) rfl rfl (by (try simp only [List.map_cons, List.map_nil, List.sum_cons, List.sum_nil, hrf_cat, cat_i, cat_l, cat_r]) <;> decide) ⟨(show _ ≤ 600000 by omega), (show _ ≤ 7302250 by omega)⟩ dL_law_408 (fun v67 S66 hh => ?_)
                refine rw_icmp_eq E hh (tgt := 1332) (by decide) dL_law_411 (fun hh => ?_) (fun hh => ?_)
                · refine WH.pick [0, 1, 2, 3] rfl ?_
                  exact w_L_law_b1332 E hrt hlk hXX hnc hns (by omega) (by omega) hj18 hh
                · refine rw_iconst E (v := 0) (by decide) dL_law_414 ?_
                  cases hh
              · rw [if_neg c33_5] at hh
                by_cases c33_6 : v2 = 6
                · rw [if_pos c33_6] at hh
                  refine rw_swin E (v := 6) (tgt := 416) dL_law_33 c33_6 (by decide) (by decide) rfl (by decide) ?_
                  refine rw_aload_n E (j0 := 1) rfl rfl dL_law_416 ?_
                  refine rw_cVi E (As := []) hh (by decide) rfl (fun _ _ _ hq => c_X11_fault l b0 G _ _ _ _ hq) (cwV 0 E.2.2.2.2.1 gL_law_X11_fault rfl rfl rfl (by decide +kernel) ⟨Nat.le_of_ble_eq_true rfl, Nat.le_of_ble_eq_true rfl⟩) rfl rfl (by (try simp only [List.map_cons, List.map_nil, List.sum_cons, List.sum_nil, hrf_cat, cat_i, cat_l, cat_r]) <;> decide) ⟨(show _ ≤ 600000 by omega), (show _ ≤ 7302250 by omega)⟩ dL_law_417 (fun v70 S69 hh => ?_)
                  refine rw_aload_n E (j0 := 2) rfl rfl dL_law_420 ?_
                  refine rw_cVi E (As := []) hh (by decide) rfl (fun _ _ _ hq => c_X12_fault l b0 G _ _ _ _ hq) (cwV 0 E.2.2.2.2.1 gL_law_X12_fault rfl rfl rfl (by decide +kernel) ⟨Nat.le_of_ble_eq_true rfl, Nat.le_of_ble_eq_true rfl⟩) rfl rfl (by (try simp only [List.map_cons, List.map_nil, List.sum_cons, List.sum_nil, hrf_cat, cat_i, cat_l, cat_r]) <;> decide) ⟨(show _ ≤ 600000 by omega), (show _ ≤ 7302250 by omega)⟩ dL_law_421 (fun v73 S72 hh => ?_)
                  refine rw_icmp_eq E hh (tgt := 1332) (by decide) dL_law_424 (fun hh => ?_) (fun hh => ?_)
                  · refine WH.pick [0, 1, 2, 3] rfl ?_
                    exact w_L_law_b1332 E hrt hlk hXX hnc hns (by omega) (by omega) hj18 hh
                  · refine rw_iconst E (v := 0) (by decide) dL_law_427 ?_
                    cases hh
                · rw [if_neg c33_6] at hh
                  by_cases c33_7 : v2 = 7
                  · rw [if_pos c33_7] at hh
                    refine rw_swin E (v := 7) (tgt := 429) dL_law_33 c33_7 (by decide) (by decide) rfl (by decide) ?_
                    refine rw_aload_n E (j0 := 1) rfl rfl dL_law_429 ?_
                    refine rw_aloadr_n E (j0 := 0) rfl rfl dL_law_430 ?_
                    refine rw_iload_n E (j0 := 3) rfl rfl dL_law_431 ?_
                    refine rw_iconst E (v := 1) (by decide) dL_law_432 ?_
                    refine rw_iadd E dL_law_433 ?_
                    refine rw_sld E hh hXX dL_law_434 (fun v75 hh => ?_)
                    refine rw_aloadr_n E (j0 := 0) rfl rfl dL_law_435 ?_
                    refine rw_iload_n E (j0 := 3) rfl rfl dL_law_436 ?_
                    refine rw_iconst E (v := 2) (by decide) dL_law_437 ?_
                    refine rw_iadd E dL_law_438 ?_
                    refine rw_sld E hh hXX dL_law_439 (fun v76 hh => ?_)
                    refine rw_aloadr_n E (j0 := 0) rfl rfl dL_law_440 ?_
                    refine rw_iload_n E (j0 := 3) rfl rfl dL_law_441 ?_
                    refine rw_iconst E (v := 3) (by decide) dL_law_442 ?_
                    refine rw_iadd E dL_law_443 ?_
                    refine rw_sld E hh hXX dL_law_444 (fun v77 hh => ?_)
                    refine rw_cVi E (As := [.int v75, .int v76, .int v77]) hh (by decide) rfl (fun _ _ _ hq => c_X11_shorter l b0 G _ _ _ _ _ _ _ hq) (cwV 3 E.2.2.2.2.1 gL_law_X11_shorter rfl rfl rfl (by decide +kernel) ⟨Nat.le_of_ble_eq_true rfl, Nat.le_of_ble_eq_true rfl⟩) rfl rfl (by (try simp only [List.map_cons, List.map_nil, List.sum_cons, List.sum_nil, hrf_cat, cat_i, cat_l, cat_r]) <;> decide) ⟨(show _ ≤ 600000 by omega), (show _ ≤ 7302250 by omega)⟩ dL_law_445 (fun v79 S78 hh => ?_)
                    refine rw_aload_n E (j0 := 2) rfl rfl dL_law_448 ?_
                    refine rw_aloadr_n E (j0 := 0) rfl rfl dL_law_449 ?_
                    refine rw_iload_n E (j0 := 3) rfl rfl dL_law_450 ?_
                    refine rw_iconst E (v := 1) (by decide) dL_law_451 ?_
                    refine rw_iadd E dL_law_452 ?_
                    refine rw_sld E hh hXX dL_law_453 (fun v81 hh => ?_)
                    refine rw_aloadr_n E (j0 := 0) rfl rfl dL_law_454 ?_
                    refine rw_iload_n E (j0 := 3) rfl rfl dL_law_455 ?_
                    refine rw_iconst E (v := 2) (by decide) dL_law_456 ?_
                    refine rw_iadd E dL_law_457 ?_
                    refine rw_sld E hh hXX dL_law_458 (fun v82 hh => ?_)
                    refine rw_aloadr_n E (j0 := 0) rfl rfl dL_law_459 ?_
                    refine rw_iload_n E (j0 := 3) rfl rfl dL_law_460 ?_
                    refine rw_iconst E (v := 3) (by decide) dL_law_461 ?_
                    refine rw_iadd E dL_law_462 ?_
                    refine rw_sld E hh hXX dL_law_463 (fun v83 hh => ?_)
                    refine rw_cVi E (As := [.int v81, .int v82, .int v83]) hh (by decide) rfl (fun _ _ _ hq => c_X12_shorter l b0 G _ _ _ _ _ _ _ hq) (cwV 3 E.2.2.2.2.1 gL_law_X12_shorter rfl rfl rfl (by decide +kernel) ⟨Nat.le_of_ble_eq_true rfl, Nat.le_of_ble_eq_true rfl⟩) rfl rfl (by (try simp only [List.map_cons, List.map_nil, List.sum_cons, List.sum_nil, hrf_cat, cat_i, cat_l, cat_r]) <;> decide) ⟨(show _ ≤ 600000 by omega), (show _ ≤ 7302250 by omega)⟩ dL_law_464 (fun v85 S84 hh => ?_)
                    refine rw_icmp_eq E hh (tgt := 1332) (by decide) dL_law_467 (fun hh => ?_) (fun hh => ?_)
                    · refine WH.pick [0, 1, 2, 3] rfl ?_
                      exact w_L_law_b1332 E hrt hlk hXX hnc hns (by omega) (by omega) hj18 hh
                    · refine rw_iconst E (v := 0) (by decide) dL_law_470 ?_
                      cases hh
                  · rw [if_neg c33_7] at hh
                    by_cases c33_8 : v2 = 8
                    · rw [if_pos c33_8] at hh
                      refine rw_swin E (v := 8) (tgt := 472) dL_law_33 c33_8 (by decide) (by decide) rfl (by decide) ?_
                      refine rw_aload_n E (j0 := 1) rfl rfl dL_law_472 ?_
                      refine rw_aloadr_n E (j0 := 0) rfl rfl dL_law_473 ?_
                      refine rw_iload_n E (j0 := 3) rfl rfl dL_law_474 ?_
                      refine rw_iconst E (v := 1) (by decide) dL_law_475 ?_
                      refine rw_iadd E dL_law_476 ?_
                      refine rw_sld E hh hXX dL_law_477 (fun v87 hh => ?_)
                      refine rw_aloadr_n E (j0 := 0) rfl rfl dL_law_478 ?_
                      refine rw_iload_n E (j0 := 3) rfl rfl dL_law_479 ?_
                      refine rw_iconst E (v := 2) (by decide) dL_law_480 ?_
                      refine rw_iadd E dL_law_481 ?_
                      refine rw_sld E hh hXX dL_law_482 (fun v88 hh => ?_)
                      refine rw_aloadr_n E (j0 := 0) rfl rfl dL_law_483 ?_
                      refine rw_iload_n E (j0 := 3) rfl rfl dL_law_484 ?_
                      refine rw_iconst E (v := 3) (by decide) dL_law_485 ?_
                      refine rw_iadd E dL_law_486 ?_
                      refine rw_sld E hh hXX dL_law_487 (fun v89 hh => ?_)
                      refine rw_aloadr_n E (j0 := 0) rfl rfl dL_law_488 ?_
                      refine rw_iload_n E (j0 := 3) rfl rfl dL_law_489 ?_
                      refine rw_iconst E (v := 4) (by decide) dL_law_490 ?_
                      refine rw_iadd E dL_law_491 ?_
                      refine rw_sld E hh hXX dL_law_492 (fun v90 hh => ?_)
                      refine rw_cVi E (As := [.int v87, .int v88, .int v89, .int v90]) hh (by decide) rfl (fun _ _ _ hq => c_X11_begin l b0 G _ _ _ _ _ _ _ _ hq) (cwV 4 E.2.2.2.2.1 gL_law_X11_begin rfl rfl rfl (by decide +kernel) ⟨Nat.le_of_ble_eq_true rfl, Nat.le_of_ble_eq_true rfl⟩) rfl rfl (by (try simp only [List.map_cons, List.map_nil, List.sum_cons, List.sum_nil, hrf_cat, cat_i, cat_l, cat_r]) <;> decide) ⟨(show _ ≤ 600000 by omega), (show _ ≤ 7302250 by omega)⟩ dL_law_493 (fun v92 S91 hh => ?_)
                      refine rw_aload_n E (j0 := 2) rfl rfl dL_law_496 ?_
                      refine rw_aloadr_n E (j0 := 0) rfl rfl dL_law_497 ?_
                      refine rw_iload_n E (j0 := 3) rfl rfl dL_law_498 ?_
                      refine rw_iconst E (v := 1) (by decide) dL_law_499 ?_
                      refine rw_iadd E dL_law_500 ?_
                      refine rw_sld E hh hXX dL_law_501 (fun v94 hh => ?_)
                      refine rw_aloadr_n E (j0 := 0) rfl rfl dL_law_502 ?_
                      refine rw_iload_n E (j0 := 3) rfl rfl dL_law_503 ?_
                      refine rw_iconst E (v := 2) (by decide) dL_law_504 ?_
                      refine rw_iadd E dL_law_505 ?_
                      refine rw_sld E hh hXX dL_law_506 (fun v95 hh => ?_)
                      refine rw_aloadr_n E (j0 := 0) rfl rfl dL_law_507 ?_
                      refine rw_iload_n E (j0 := 3) rfl rfl dL_law_508 ?_
                      refine rw_iconst E (v := 3) (by decide) dL_law_509 ?_
                      refine rw_iadd E dL_law_510 ?_
                      refine rw_sld E hh hXX dL_law_511 (fun v96 hh => ?_)
                      refine rw_aloadr_n E (j0 := 0) rfl rfl dL_law_512 ?_
                      refine rw_iload_n E (j0 := 3) rfl rfl dL_law_513 ?_
                      refine rw_iconst E (v := 4) (by decide) dL_law_514 ?_
                      refine rw_iadd E dL_law_515 ?_
                      refine rw_sld E hh hXX dL_law_516 (fun v97 hh => ?_)
                      refine rw_cVi E (As := [.int v94, .int v95, .int v96, .int v97]) hh (by decide) rfl (fun _ _ _ hq => c_X12_begin l b0 G _ _ _ _ _ _ _ _ hq) (cwV 4 E.2.2.2.2.1 gL_law_X12_begin rfl rfl rfl (by decide +kernel) ⟨Nat.le_of_ble_eq_true rfl, Nat.le_of_ble_eq_true rfl⟩) rfl rfl (by (try simp only [List.map_cons, List.map_nil, List.sum_cons, List.sum_nil, hrf_cat, cat_i, cat_l, cat_r]) <;> decide) ⟨(show _ ≤ 600000 by omega), (show _ ≤ 7302250 by omega)⟩ dL_law_517 (fun v99 S98 hh => ?_)
                      refine rw_icmp_eq E hh (tgt := 1332) (by decide) dL_law_520 (fun hh => ?_) (fun hh => ?_)
                      · refine WH.pick [0, 1, 2, 3] rfl ?_
                        exact w_L_law_b1332 E hrt hlk hXX hnc hns (by omega) (by omega) hj18 hh
                      · refine rw_iconst E (v := 0) (by decide) dL_law_523 ?_
                        cases hh
                    · rw [if_neg c33_8] at hh
                      by_cases c33_9 : v2 = 9
                      · rw [if_pos c33_9] at hh
                        refine rw_swin E (v := 9) (tgt := 525) dL_law_33 c33_9 (by decide) (by decide) rfl (by decide) ?_
                        refine rw_aload_n E (j0 := 1) rfl rfl dL_law_525 ?_
                        refine rw_aloadr_n E (j0 := 0) rfl rfl dL_law_526 ?_
                        refine rw_iload_n E (j0 := 3) rfl rfl dL_law_527 ?_
                        refine rw_iconst E (v := 1) (by decide) dL_law_528 ?_
                        refine rw_iadd E dL_law_529 ?_
                        refine rw_sld E hh hXX dL_law_530 (fun v101 hh => ?_)
                        refine rw_cVi E (As := [.int v101]) hh (by decide) rfl (fun _ _ _ hq => c_X11_go l b0 G _ _ _ _ _ hq) (cwV 1 E.2.2.2.2.1 gL_law_X11_go rfl rfl rfl (by decide +kernel) ⟨Nat.le_of_ble_eq_true rfl, Nat.le_of_ble_eq_true rfl⟩) rfl rfl (by (try simp only [List.map_cons, List.map_nil, List.sum_cons, List.sum_nil, hrf_cat, cat_i, cat_l, cat_r]) <;> decide) ⟨(show _ ≤ 600000 by omega), (show _ ≤ 7302250 by omega)⟩ dL_law_531 (fun v103 S102 hh => ?_)
                        refine rw_aload_n E (j0 := 2) rfl rfl dL_law_534 ?_
                        refine rw_aloadr_n E (j0 := 0) rfl rfl dL_law_535 ?_
                        refine rw_iload_n E (j0 := 3) rfl rfl dL_law_536 ?_
                        refine rw_iconst E (v := 1) (by decide) dL_law_537 ?_
                        refine rw_iadd E dL_law_538 ?_
                        refine rw_sld E hh hXX dL_law_539 (fun v105 hh => ?_)
                        refine rw_cVi E (As := [.int v105]) hh (by decide) rfl (fun _ _ _ hq => c_X12_go l b0 G _ _ _ _ _ hq) (cwV 1 E.2.2.2.2.1 gL_law_X12_go rfl rfl rfl (by decide +kernel) ⟨Nat.le_of_ble_eq_true rfl, Nat.le_of_ble_eq_true rfl⟩) rfl rfl (by (try simp only [List.map_cons, List.map_nil, List.sum_cons, List.sum_nil, hrf_cat, cat_i, cat_l, cat_r]) <;> decide) ⟨(show _ ≤ 600000 by omega), (show _ ≤ 7302250 by omega)⟩ dL_law_540 (fun v107 S106 hh => ?_)
                        refine rw_icmp_eq E hh (tgt := 1332) (by decide) dL_law_543 (fun hh => ?_) (fun hh => ?_)
                        · refine WH.pick [0, 1, 2, 3] rfl ?_
                          exact w_L_law_b1332 E hrt hlk hXX hnc hns (by omega) (by omega) hj18 hh
                        · refine rw_iconst E (v := 0) (by decide) dL_law_546 ?_
                          cases hh
                      · rw [if_neg c33_9] at hh
                        by_cases c33_10 : v2 = 10
                        · rw [if_pos c33_10] at hh
                          refine rw_swin E (v := 10) (tgt := 548) dL_law_33 c33_10 (by decide) (by decide) rfl (by decide) ?_
                          refine rw_aload_n E (j0 := 1) rfl rfl dL_law_548 ?_
                          refine rw_aloadr_n E (j0 := 0) rfl rfl dL_law_549 ?_
                          refine rw_iload_n E (j0 := 3) rfl rfl dL_law_550 ?_
                          refine rw_iconst E (v := 1) (by decide) dL_law_551 ?_
                          refine rw_iadd E dL_law_552 ?_
                          refine rw_sld E hh hXX dL_law_553 (fun v109 hh => ?_)
                          refine rw_aloadr_n E (j0 := 0) rfl rfl dL_law_554 ?_
                          refine rw_iload_n E (j0 := 3) rfl rfl dL_law_555 ?_
                          refine rw_iconst E (v := 2) (by decide) dL_law_556 ?_
                          refine rw_iadd E dL_law_557 ?_
                          refine rw_sld E hh hXX dL_law_558 (fun v110 hh => ?_)
                          refine rw_aloadr_n E (j0 := 0) rfl rfl dL_law_559 ?_
                          refine rw_iload_n E (j0 := 3) rfl rfl dL_law_560 ?_
                          refine rw_iconst E (v := 3) (by decide) dL_law_561 ?_
                          refine rw_iadd E dL_law_562 ?_
                          refine rw_sld E hh hXX dL_law_563 (fun v111 hh => ?_)
                          refine rw_cVi E (As := [.int v109, .int v110, .int v111]) hh (by decide) rfl (fun _ _ _ hq => c_X11_pulls l b0 G _ _ _ _ _ _ _ hq) (cwV 3 E.2.2.2.2.1 gL_law_X11_pulls rfl rfl rfl (by decide +kernel) ⟨Nat.le_of_ble_eq_true rfl, Nat.le_of_ble_eq_true rfl⟩) rfl rfl (by (try simp only [List.map_cons, List.map_nil, List.sum_cons, List.sum_nil, hrf_cat, cat_i, cat_l, cat_r]) <;> decide) ⟨(show _ ≤ 600000 by omega), (show _ ≤ 7302250 by omega)⟩ dL_law_564 (fun v113 S112 hh => ?_)
                          refine rw_aload_n E (j0 := 2) rfl rfl dL_law_567 ?_
                          refine rw_aloadr_n E (j0 := 0) rfl rfl dL_law_568 ?_
                          refine rw_iload_n E (j0 := 3) rfl rfl dL_law_569 ?_
                          refine rw_iconst E (v := 1) (by decide) dL_law_570 ?_
                          refine rw_iadd E dL_law_571 ?_
                          refine rw_sld E hh hXX dL_law_572 (fun v115 hh => ?_)
                          refine rw_aloadr_n E (j0 := 0) rfl rfl dL_law_573 ?_
                          refine rw_iload_n E (j0 := 3) rfl rfl dL_law_574 ?_
                          refine rw_iconst E (v := 2) (by decide) dL_law_575 ?_
                          refine rw_iadd E dL_law_576 ?_
                          refine rw_sld E hh hXX dL_law_577 (fun v116 hh => ?_)
                          refine rw_aloadr_n E (j0 := 0) rfl rfl dL_law_578 ?_
                          refine rw_iload_n E (j0 := 3) rfl rfl dL_law_579 ?_
                          refine rw_iconst E (v := 3) (by decide) dL_law_580 ?_
                          refine rw_iadd E dL_law_581 ?_
                          refine rw_sld E hh hXX dL_law_582 (fun v117 hh => ?_)
                          refine rw_cVi E (As := [.int v115, .int v116, .int v117]) hh (by decide) rfl (fun _ _ _ hq => c_X12_pulls l b0 G _ _ _ _ _ _ _ hq) (cwV 3 E.2.2.2.2.1 gL_law_X12_pulls rfl rfl rfl (by decide +kernel) ⟨Nat.le_of_ble_eq_true rfl, Nat.le_of_ble_eq_true rfl⟩) rfl rfl (by (try simp only [List.map_cons, List.map_nil, List.sum_cons, List.sum_nil, hrf_cat, cat_i, cat_l, cat_r]) <;> decide) ⟨(show _ ≤ 600000 by omega), (show _ ≤ 7302250 by omega)⟩ dL_law_583 (fun v119 S118 hh => ?_)
                          refine rw_icmp_eq E hh (tgt := 1332) (by decide) dL_law_586 (fun hh => ?_) (fun hh => ?_)
                          · refine WH.pick [0, 1, 2, 3] rfl ?_
                            exact w_L_law_b1332 E hrt hlk hXX hnc hns (by omega) (by omega) hj18 hh
                          · refine rw_iconst E (v := 0) (by decide) dL_law_589 ?_
                            cases hh
                        · rw [if_neg c33_10] at hh
                          by_cases c33_11 : v2 = 11
                          · rw [if_pos c33_11] at hh
                            refine rw_swin E (v := 11) (tgt := 591) dL_law_33 c33_11 (by decide) (by decide) rfl (by decide) ?_
                            refine rw_aload_n E (j0 := 1) rfl rfl dL_law_591 ?_
                            refine rw_aloadr_n E (j0 := 0) rfl rfl dL_law_592 ?_
                            refine rw_iload_n E (j0 := 3) rfl rfl dL_law_593 ?_
                            refine rw_iconst E (v := 1) (by decide) dL_law_594 ?_
                            refine rw_iadd E dL_law_595 ?_
                            refine rw_sld E hh hXX dL_law_596 (fun v121 hh => ?_)
                            refine rw_cVi E (As := [.int v121]) hh (by decide) rfl (fun _ _ _ hq => c_X11_now l b0 G _ _ _ _ _ hq) (cwV 1 E.2.2.2.2.1 gL_law_X11_now rfl rfl rfl (by decide +kernel) ⟨Nat.le_of_ble_eq_true rfl, Nat.le_of_ble_eq_true rfl⟩) rfl rfl (by (try simp only [List.map_cons, List.map_nil, List.sum_cons, List.sum_nil, hrf_cat, cat_i, cat_l, cat_r]) <;> decide) ⟨(show _ ≤ 600000 by omega), (show _ ≤ 7302250 by omega)⟩ dL_law_597 (fun v123 S122 hh => ?_)
                            refine rw_aload_n E (j0 := 2) rfl rfl dL_law_600 ?_
                            refine rw_aloadr_n E (j0 := 0) rfl rfl dL_law_601 ?_
                            refine rw_iload_n E (j0 := 3) rfl rfl dL_law_602 ?_
                            refine rw_iconst E (v := 1) (by decide) dL_law_603 ?_
                            refine rw_iadd E dL_law_604 ?_
                            refine rw_sld E hh hXX dL_law_605 (fun v125 hh => ?_)
                            refine rw_cVi E (As := [.int v125]) hh (by decide) rfl (fun _ _ _ hq => c_X12_now l b0 G _ _ _ _ _ hq) (cwV 1 E.2.2.2.2.1 gL_law_X12_now rfl rfl rfl (by decide +kernel) ⟨Nat.le_of_ble_eq_true rfl, Nat.le_of_ble_eq_true rfl⟩) rfl rfl (by (try simp only [List.map_cons, List.map_nil, List.sum_cons, List.sum_nil, hrf_cat, cat_i, cat_l, cat_r]) <;> decide) ⟨(show _ ≤ 600000 by omega), (show _ ≤ 7302250 by omega)⟩ dL_law_606 (fun v127 S126 hh => ?_)
                            refine rw_icmp_eq E hh (tgt := 1332) (by decide) dL_law_609 (fun hh => ?_) (fun hh => ?_)
                            · refine WH.pick [0, 1, 2, 3] rfl ?_
                              exact w_L_law_b1332 E hrt hlk hXX hnc hns (by omega) (by omega) hj18 hh
                            · refine rw_iconst E (v := 0) (by decide) dL_law_612 ?_
                              cases hh
                          · rw [if_neg c33_11] at hh
                            by_cases c33_12 : v2 = 12
                            · rw [if_pos c33_12] at hh
                              refine rw_swin E (v := 12) (tgt := 614) dL_law_33 c33_12 (by decide) (by decide) rfl (by decide) ?_
                              refine rw_aload_n E (j0 := 1) rfl rfl dL_law_614 ?_
                              refine rw_aloadr_n E (j0 := 0) rfl rfl dL_law_615 ?_
                              refine rw_iload_n E (j0 := 3) rfl rfl dL_law_616 ?_
                              refine rw_iconst E (v := 1) (by decide) dL_law_617 ?_
                              refine rw_iadd E dL_law_618 ?_
                              refine rw_sld E hh hXX dL_law_619 (fun v129 hh => ?_)
                              refine rw_aloadr_n E (j0 := 0) rfl rfl dL_law_620 ?_
                              refine rw_iload_n E (j0 := 3) rfl rfl dL_law_621 ?_
                              refine rw_iconst E (v := 2) (by decide) dL_law_622 ?_
                              refine rw_iadd E dL_law_623 ?_
                              refine rw_sld E hh hXX dL_law_624 (fun v130 hh => ?_)
                              refine rw_aloadr_n E (j0 := 0) rfl rfl dL_law_625 ?_
                              refine rw_iload_n E (j0 := 3) rfl rfl dL_law_626 ?_
                              refine rw_iconst E (v := 3) (by decide) dL_law_627 ?_
                              refine rw_iadd E dL_law_628 ?_
                              refine rw_sld E hh hXX dL_law_629 (fun v131 hh => ?_)
                              refine rw_aloadr_n E (j0 := 0) rfl rfl dL_law_630 ?_
                              refine rw_iload_n E (j0 := 3) rfl rfl dL_law_631 ?_
                              refine rw_iconst E (v := 4) (by decide) dL_law_632 ?_
                              refine rw_iadd E dL_law_633 ?_
                              refine rw_sld E hh hXX dL_law_634 (fun v132 hh => ?_)
                              refine rw_aloadr_n E (j0 := 0) rfl rfl dL_law_635 ?_
                              refine rw_iload_n E (j0 := 3) rfl rfl dL_law_636 ?_
                              refine rw_iconst E (v := 5) (by decide) dL_law_637 ?_
                              refine rw_iadd E dL_law_638 ?_
                              refine rw_sld E hh hXX dL_law_639 (fun v133 hh => ?_)
                              refine rw_aloadr_n E (j0 := 0) rfl rfl dL_law_640 ?_
                              refine rw_iload_n E (j0 := 3) rfl rfl dL_law_641 ?_
                              refine rw_bipush E (v := 6) (by decide) dL_law_642 ?_
                              refine rw_iadd E dL_law_644 ?_
                              refine rw_sld E hh hXX dL_law_645 (fun v134 hh => ?_)
                              refine rw_cVi E (As := [.int v129, .int v130, .int v131, .int v132, .int v133, .int v134]) hh (by decide) rfl (fun _ _ _ hq => c_X11_greatest l b0 G _ _ _ _ _ _ _ _ _ _ hq) (cwV 6 E.2.2.2.2.1 gL_law_X11_greatest rfl rfl rfl (by decide +kernel) ⟨Nat.le_of_ble_eq_true rfl, Nat.le_of_ble_eq_true rfl⟩) rfl rfl (by (try simp only [List.map_cons, List.map_nil, List.sum_cons, List.sum_nil, hrf_cat, cat_i, cat_l, cat_r]) <;> decide) ⟨(show _ ≤ 600000 by omega), (show _ ≤ 7302250 by omega)⟩ dL_law_646 (fun v136 S135 hh => ?_)
                              refine rw_aload_n E (j0 := 2) rfl rfl dL_law_649 ?_
                              refine rw_aloadr_n E (j0 := 0) rfl rfl dL_law_650 ?_
                              refine rw_iload_n E (j0 := 3) rfl rfl dL_law_651 ?_
                              refine rw_iconst E (v := 1) (by decide) dL_law_652 ?_
                              refine rw_iadd E dL_law_653 ?_
                              refine rw_sld E hh hXX dL_law_654 (fun v138 hh => ?_)
                              refine rw_aloadr_n E (j0 := 0) rfl rfl dL_law_655 ?_
                              refine rw_iload_n E (j0 := 3) rfl rfl dL_law_656 ?_
                              refine rw_iconst E (v := 2) (by decide) dL_law_657 ?_
                              refine rw_iadd E dL_law_658 ?_
                              refine rw_sld E hh hXX dL_law_659 (fun v139 hh => ?_)
                              refine rw_aloadr_n E (j0 := 0) rfl rfl dL_law_660 ?_
                              refine rw_iload_n E (j0 := 3) rfl rfl dL_law_661 ?_
                              refine rw_iconst E (v := 3) (by decide) dL_law_662 ?_
                              refine rw_iadd E dL_law_663 ?_
                              refine rw_sld E hh hXX dL_law_664 (fun v140 hh => ?_)
                              refine rw_aloadr_n E (j0 := 0) rfl rfl dL_law_665 ?_
                              refine rw_iload_n E (j0 := 3) rfl rfl dL_law_666 ?_
                              refine rw_iconst E (v := 4) (by decide) dL_law_667 ?_
                              refine rw_iadd E dL_law_668 ?_
                              refine rw_sld E hh hXX dL_law_669 (fun v141 hh => ?_)
                              refine rw_aloadr_n E (j0 := 0) rfl rfl dL_law_670 ?_
                              refine rw_iload_n E (j0 := 3) rfl rfl dL_law_671 ?_
                              refine rw_iconst E (v := 5) (by decide) dL_law_672 ?_
                              refine rw_iadd E dL_law_673 ?_
                              refine rw_sld E hh hXX dL_law_674 (fun v142 hh => ?_)
                              refine rw_aloadr_n E (j0 := 0) rfl rfl dL_law_675 ?_
                              refine rw_iload_n E (j0 := 3) rfl rfl dL_law_676 ?_
                              refine rw_bipush E (v := 6) (by decide) dL_law_677 ?_
                              refine rw_iadd E dL_law_679 ?_
                              refine rw_sld E hh hXX dL_law_680 (fun v143 hh => ?_)
                              refine rw_cVi E (As := [.int v138, .int v139, .int v140, .int v141, .int v142, .int v143]) hh (by decide) rfl (fun _ _ _ hq => c_X12_greatest l b0 G _ _ _ _ _ _ _ _ _ _ hq) (cwV 6 E.2.2.2.2.1 gL_law_X12_greatest rfl rfl rfl (by decide +kernel) ⟨Nat.le_of_ble_eq_true rfl, Nat.le_of_ble_eq_true rfl⟩) rfl rfl (by (try simp only [List.map_cons, List.map_nil, List.sum_cons, List.sum_nil, hrf_cat, cat_i, cat_l, cat_r]) <;> decide) ⟨(show _ ≤ 600000 by omega), (show _ ≤ 7302250 by omega)⟩ dL_law_681 (fun v145 S144 hh => ?_)
                              refine rw_icmp_eq E hh (tgt := 1332) (by decide) dL_law_684 (fun hh => ?_) (fun hh => ?_)
                              · refine WH.pick [0, 1, 2, 3] rfl ?_
                                exact w_L_law_b1332 E hrt hlk hXX hnc hns (by omega) (by omega) hj18 hh
                              · refine rw_iconst E (v := 0) (by decide) dL_law_687 ?_
                                cases hh
                            · rw [if_neg c33_12] at hh
                              by_cases c33_13 : v2 = 13
                              · rw [if_pos c33_13] at hh
                                refine rw_swin E (v := 13) (tgt := 689) dL_law_33 c33_13 (by decide) (by decide) rfl (by decide) ?_
                                refine rw_aload_n E (j0 := 1) rfl rfl dL_law_689 ?_
                                refine rw_aloadr_n E (j0 := 0) rfl rfl dL_law_690 ?_
                                refine rw_iload_n E (j0 := 3) rfl rfl dL_law_691 ?_
                                refine rw_iconst E (v := 1) (by decide) dL_law_692 ?_
                                refine rw_iadd E dL_law_693 ?_
                                refine rw_sld E hh hXX dL_law_694 (fun v147 hh => ?_)
                                refine rw_aloadr_n E (j0 := 0) rfl rfl dL_law_695 ?_
                                refine rw_iload_n E (j0 := 3) rfl rfl dL_law_696 ?_
                                refine rw_iconst E (v := 2) (by decide) dL_law_697 ?_
                                refine rw_iadd E dL_law_698 ?_
                                refine rw_sld E hh hXX dL_law_699 (fun v148 hh => ?_)
                                refine rw_aloadr_n E (j0 := 0) rfl rfl dL_law_700 ?_
                                refine rw_iload_n E (j0 := 3) rfl rfl dL_law_701 ?_
                                refine rw_iconst E (v := 3) (by decide) dL_law_702 ?_
                                refine rw_iadd E dL_law_703 ?_
                                refine rw_sld E hh hXX dL_law_704 (fun v149 hh => ?_)
                                refine rw_cVi E (As := [.int v147, .int v148, .int v149]) hh (by decide) rfl (fun _ _ _ hq => c_X11_best l b0 G _ _ _ _ _ _ _ hq) (cwV 3 E.2.2.2.2.1 gL_law_X11_best rfl rfl rfl (by decide +kernel) ⟨Nat.le_of_ble_eq_true rfl, Nat.le_of_ble_eq_true rfl⟩) rfl rfl (by (try simp only [List.map_cons, List.map_nil, List.sum_cons, List.sum_nil, hrf_cat, cat_i, cat_l, cat_r]) <;> decide) ⟨(show _ ≤ 600000 by omega), (show _ ≤ 7302250 by omega)⟩ dL_law_705 (fun v151 S150 hh => ?_)
                                refine rw_aload_n E (j0 := 2) rfl rfl dL_law_708 ?_
                                refine rw_aloadr_n E (j0 := 0) rfl rfl dL_law_709 ?_
                                refine rw_iload_n E (j0 := 3) rfl rfl dL_law_710 ?_
                                refine rw_iconst E (v := 1) (by decide) dL_law_711 ?_
                                refine rw_iadd E dL_law_712 ?_
                                refine rw_sld E hh hXX dL_law_713 (fun v153 hh => ?_)
                                refine rw_aloadr_n E (j0 := 0) rfl rfl dL_law_714 ?_
                                refine rw_iload_n E (j0 := 3) rfl rfl dL_law_715 ?_
                                refine rw_iconst E (v := 2) (by decide) dL_law_716 ?_
                                refine rw_iadd E dL_law_717 ?_
                                refine rw_sld E hh hXX dL_law_718 (fun v154 hh => ?_)
                                refine rw_aloadr_n E (j0 := 0) rfl rfl dL_law_719 ?_
                                refine rw_iload_n E (j0 := 3) rfl rfl dL_law_720 ?_
                                refine rw_iconst E (v := 3) (by decide) dL_law_721 ?_
                                refine rw_iadd E dL_law_722 ?_
                                refine rw_sld E hh hXX dL_law_723 (fun v155 hh => ?_)
                                refine rw_cVi E (As := [.int v153, .int v154, .int v155]) hh (by decide) rfl (fun _ _ _ hq => c_X12_best l b0 G _ _ _ _ _ _ _ hq) (cwV 3 E.2.2.2.2.1 gL_law_X12_best rfl rfl rfl (by decide +kernel) ⟨Nat.le_of_ble_eq_true rfl, Nat.le_of_ble_eq_true rfl⟩) rfl rfl (by (try simp only [List.map_cons, List.map_nil, List.sum_cons, List.sum_nil, hrf_cat, cat_i, cat_l, cat_r]) <;> decide) ⟨(show _ ≤ 600000 by omega), (show _ ≤ 7302250 by omega)⟩ dL_law_724 (fun v157 S156 hh => ?_)
                                refine rw_icmp_eq E hh (tgt := 1332) (by decide) dL_law_727 (fun hh => ?_) (fun hh => ?_)
                                · refine WH.pick [0, 1, 2, 3] rfl ?_
                                  exact w_L_law_b1332 E hrt hlk hXX hnc hns (by omega) (by omega) hj18 hh
                                · refine rw_iconst E (v := 0) (by decide) dL_law_730 ?_
                                  cases hh
                              · rw [if_neg c33_13] at hh
                                by_cases c33_14 : v2 = 14
                                · rw [if_pos c33_14] at hh
                                  refine rw_swin E (v := 14) (tgt := 732) dL_law_33 c33_14 (by decide) (by decide) rfl (by decide) ?_
                                  refine rw_aload_n E (j0 := 1) rfl rfl dL_law_732 ?_
                                  refine rw_aloadr_n E (j0 := 0) rfl rfl dL_law_733 ?_
                                  refine rw_iload_n E (j0 := 3) rfl rfl dL_law_734 ?_
                                  refine rw_iconst E (v := 1) (by decide) dL_law_735 ?_
                                  refine rw_iadd E dL_law_736 ?_
                                  refine rw_sld E hh hXX dL_law_737 (fun v159 hh => ?_)
                                  refine rw_aloadr_n E (j0 := 0) rfl rfl dL_law_738 ?_
                                  refine rw_iload_n E (j0 := 3) rfl rfl dL_law_739 ?_
                                  refine rw_iconst E (v := 2) (by decide) dL_law_740 ?_
                                  refine rw_iadd E dL_law_741 ?_
                                  refine rw_sld E hh hXX dL_law_742 (fun v160 hh => ?_)
                                  refine rw_aloadr_n E (j0 := 0) rfl rfl dL_law_743 ?_
                                  refine rw_iload_n E (j0 := 3) rfl rfl dL_law_744 ?_
                                  refine rw_iconst E (v := 3) (by decide) dL_law_745 ?_
                                  refine rw_iadd E dL_law_746 ?_
                                  refine rw_sld E hh hXX dL_law_747 (fun v161 hh => ?_)
                                  refine rw_aloadr_n E (j0 := 0) rfl rfl dL_law_748 ?_
                                  refine rw_iload_n E (j0 := 3) rfl rfl dL_law_749 ?_
                                  refine rw_iconst E (v := 4) (by decide) dL_law_750 ?_
                                  refine rw_iadd E dL_law_751 ?_
                                  refine rw_sld E hh hXX dL_law_752 (fun v162 hh => ?_)
                                  refine rw_aloadr_n E (j0 := 0) rfl rfl dL_law_753 ?_
                                  refine rw_iload_n E (j0 := 3) rfl rfl dL_law_754 ?_
                                  refine rw_iconst E (v := 5) (by decide) dL_law_755 ?_
                                  refine rw_iadd E dL_law_756 ?_
                                  refine rw_sld E hh hXX dL_law_757 (fun v163 hh => ?_)
                                  refine rw_cVi E (As := [.int v159, .int v160, .int v161, .int v162, .int v163]) hh (by decide) rfl (fun _ _ _ hq => c_X11_from l b0 G _ _ _ _ _ _ _ _ _ hq) (cwV 5 E.2.2.2.2.1 gL_law_X11_from rfl rfl rfl (by decide +kernel) ⟨Nat.le_of_ble_eq_true rfl, Nat.le_of_ble_eq_true rfl⟩) rfl rfl (by (try simp only [List.map_cons, List.map_nil, List.sum_cons, List.sum_nil, hrf_cat, cat_i, cat_l, cat_r]) <;> decide) ⟨(show _ ≤ 600000 by omega), (show _ ≤ 7302250 by omega)⟩ dL_law_758 (fun v165 S164 hh => ?_)
                                  refine rw_aload_n E (j0 := 2) rfl rfl dL_law_761 ?_
                                  refine rw_aloadr_n E (j0 := 0) rfl rfl dL_law_762 ?_
                                  refine rw_iload_n E (j0 := 3) rfl rfl dL_law_763 ?_
                                  refine rw_iconst E (v := 1) (by decide) dL_law_764 ?_
                                  refine rw_iadd E dL_law_765 ?_
                                  refine rw_sld E hh hXX dL_law_766 (fun v167 hh => ?_)
                                  refine rw_aloadr_n E (j0 := 0) rfl rfl dL_law_767 ?_
                                  refine rw_iload_n E (j0 := 3) rfl rfl dL_law_768 ?_
                                  refine rw_iconst E (v := 2) (by decide) dL_law_769 ?_
                                  refine rw_iadd E dL_law_770 ?_
                                  refine rw_sld E hh hXX dL_law_771 (fun v168 hh => ?_)
                                  refine rw_aloadr_n E (j0 := 0) rfl rfl dL_law_772 ?_
                                  refine rw_iload_n E (j0 := 3) rfl rfl dL_law_773 ?_
                                  refine rw_iconst E (v := 3) (by decide) dL_law_774 ?_
                                  refine rw_iadd E dL_law_775 ?_
                                  refine rw_sld E hh hXX dL_law_776 (fun v169 hh => ?_)
                                  refine rw_aloadr_n E (j0 := 0) rfl rfl dL_law_777 ?_
                                  refine rw_iload_n E (j0 := 3) rfl rfl dL_law_778 ?_
                                  refine rw_iconst E (v := 4) (by decide) dL_law_779 ?_
                                  refine rw_iadd E dL_law_780 ?_
                                  refine rw_sld E hh hXX dL_law_781 (fun v170 hh => ?_)
                                  refine rw_aloadr_n E (j0 := 0) rfl rfl dL_law_782 ?_
                                  refine rw_iload_n E (j0 := 3) rfl rfl dL_law_783 ?_
                                  refine rw_iconst E (v := 5) (by decide) dL_law_784 ?_
                                  refine rw_iadd E dL_law_785 ?_
                                  refine rw_sld E hh hXX dL_law_786 (fun v171 hh => ?_)
                                  refine rw_cVi E (As := [.int v167, .int v168, .int v169, .int v170, .int v171]) hh (by decide) rfl (fun _ _ _ hq => c_X12_from l b0 G _ _ _ _ _ _ _ _ _ hq) (cwV 5 E.2.2.2.2.1 gL_law_X12_from rfl rfl rfl (by decide +kernel) ⟨Nat.le_of_ble_eq_true rfl, Nat.le_of_ble_eq_true rfl⟩) rfl rfl (by (try simp only [List.map_cons, List.map_nil, List.sum_cons, List.sum_nil, hrf_cat, cat_i, cat_l, cat_r]) <;> decide) ⟨(show _ ≤ 600000 by omega), (show _ ≤ 7302250 by omega)⟩ dL_law_787 (fun v173 S172 hh => ?_)
                                  refine rw_icmp_eq E hh (tgt := 1332) (by decide) dL_law_790 (fun hh => ?_) (fun hh => ?_)
                                  · refine WH.pick [0, 1, 2, 3] rfl ?_
                                    exact w_L_law_b1332 E hrt hlk hXX hnc hns (by omega) (by omega) hj18 hh
                                  · refine rw_iconst E (v := 0) (by decide) dL_law_793 ?_
                                    cases hh
                                · rw [if_neg c33_14] at hh
                                  by_cases c33_15 : v2 = 15
                                  · rw [if_pos c33_15] at hh
                                    refine rw_swin E (v := 15) (tgt := 795) dL_law_33 c33_15 (by decide) (by decide) rfl (by decide) ?_
                                    refine rw_aload_n E (j0 := 1) rfl rfl dL_law_795 ?_
                                    refine rw_aloadr_n E (j0 := 0) rfl rfl dL_law_796 ?_
                                    refine rw_iload_n E (j0 := 3) rfl rfl dL_law_797 ?_
                                    refine rw_iconst E (v := 1) (by decide) dL_law_798 ?_
                                    refine rw_iadd E dL_law_799 ?_
                                    refine rw_sld E hh hXX dL_law_800 (fun v175 hh => ?_)
                                    refine rw_aloadr_n E (j0 := 0) rfl rfl dL_law_801 ?_
                                    refine rw_iload_n E (j0 := 3) rfl rfl dL_law_802 ?_
                                    refine rw_iconst E (v := 2) (by decide) dL_law_803 ?_
                                    refine rw_iadd E dL_law_804 ?_
                                    refine rw_sld E hh hXX dL_law_805 (fun v176 hh => ?_)
                                    refine rw_aloadr_n E (j0 := 0) rfl rfl dL_law_806 ?_
                                    refine rw_iload_n E (j0 := 3) rfl rfl dL_law_807 ?_
                                    refine rw_iconst E (v := 3) (by decide) dL_law_808 ?_
                                    refine rw_iadd E dL_law_809 ?_
                                    refine rw_sld E hh hXX dL_law_810 (fun v177 hh => ?_)
                                    refine rw_aloadr_n E (j0 := 0) rfl rfl dL_law_811 ?_
                                    refine rw_iload_n E (j0 := 3) rfl rfl dL_law_812 ?_
                                    refine rw_iconst E (v := 4) (by decide) dL_law_813 ?_
                                    refine rw_iadd E dL_law_814 ?_
                                    refine rw_sld E hh hXX dL_law_815 (fun v178 hh => ?_)
                                    refine rw_aloadr_n E (j0 := 0) rfl rfl dL_law_816 ?_
                                    refine rw_iload_n E (j0 := 3) rfl rfl dL_law_817 ?_
                                    refine rw_iconst E (v := 5) (by decide) dL_law_818 ?_
                                    refine rw_iadd E dL_law_819 ?_
                                    refine rw_sld E hh hXX dL_law_820 (fun v179 hh => ?_)
                                    refine rw_cVi E (As := [.int v175, .int v176, .int v177, .int v178, .int v179]) hh (by decide) rfl (fun _ _ _ hq => c_X11_late l b0 G _ _ _ _ _ _ _ _ _ hq) (cwV 5 E.2.2.2.2.1 gL_law_X11_late rfl rfl rfl (by decide +kernel) ⟨Nat.le_of_ble_eq_true rfl, Nat.le_of_ble_eq_true rfl⟩) rfl rfl (by (try simp only [List.map_cons, List.map_nil, List.sum_cons, List.sum_nil, hrf_cat, cat_i, cat_l, cat_r]) <;> decide) ⟨(show _ ≤ 600000 by omega), (show _ ≤ 7302250 by omega)⟩ dL_law_821 (fun v181 S180 hh => ?_)
                                    refine rw_aload_n E (j0 := 2) rfl rfl dL_law_824 ?_
                                    refine rw_aloadr_n E (j0 := 0) rfl rfl dL_law_825 ?_
                                    refine rw_iload_n E (j0 := 3) rfl rfl dL_law_826 ?_
                                    refine rw_iconst E (v := 1) (by decide) dL_law_827 ?_
                                    refine rw_iadd E dL_law_828 ?_
                                    refine rw_sld E hh hXX dL_law_829 (fun v183 hh => ?_)
                                    refine rw_aloadr_n E (j0 := 0) rfl rfl dL_law_830 ?_
                                    refine rw_iload_n E (j0 := 3) rfl rfl dL_law_831 ?_
                                    refine rw_iconst E (v := 2) (by decide) dL_law_832 ?_
                                    refine rw_iadd E dL_law_833 ?_
                                    refine rw_sld E hh hXX dL_law_834 (fun v184 hh => ?_)
                                    refine rw_aloadr_n E (j0 := 0) rfl rfl dL_law_835 ?_
                                    refine rw_iload_n E (j0 := 3) rfl rfl dL_law_836 ?_
                                    refine rw_iconst E (v := 3) (by decide) dL_law_837 ?_
                                    refine rw_iadd E dL_law_838 ?_
                                    refine rw_sld E hh hXX dL_law_839 (fun v185 hh => ?_)
                                    refine rw_aloadr_n E (j0 := 0) rfl rfl dL_law_840 ?_
                                    refine rw_iload_n E (j0 := 3) rfl rfl dL_law_841 ?_
                                    refine rw_iconst E (v := 4) (by decide) dL_law_842 ?_
                                    refine rw_iadd E dL_law_843 ?_
                                    refine rw_sld E hh hXX dL_law_844 (fun v186 hh => ?_)
                                    refine rw_aloadr_n E (j0 := 0) rfl rfl dL_law_845 ?_
                                    refine rw_iload_n E (j0 := 3) rfl rfl dL_law_846 ?_
                                    refine rw_iconst E (v := 5) (by decide) dL_law_847 ?_
                                    refine rw_iadd E dL_law_848 ?_
                                    refine rw_sld E hh hXX dL_law_849 (fun v187 hh => ?_)
                                    refine rw_cVi E (As := [.int v183, .int v184, .int v185, .int v186, .int v187]) hh (by decide) rfl (fun _ _ _ hq => c_X12_late l b0 G _ _ _ _ _ _ _ _ _ hq) (cwV 5 E.2.2.2.2.1 gL_law_X12_late rfl rfl rfl (by decide +kernel) ⟨Nat.le_of_ble_eq_true rfl, Nat.le_of_ble_eq_true rfl⟩) rfl rfl (by (try simp only [List.map_cons, List.map_nil, List.sum_cons, List.sum_nil, hrf_cat, cat_i, cat_l, cat_r]) <;> decide) ⟨(show _ ≤ 600000 by omega), (show _ ≤ 7302250 by omega)⟩ dL_law_850 (fun v189 S188 hh => ?_)
                                    refine rw_icmp_eq E hh (tgt := 1332) (by decide) dL_law_853 (fun hh => ?_) (fun hh => ?_)
                                    · refine WH.pick [0, 1, 2, 3] rfl ?_
                                      exact w_L_law_b1332 E hrt hlk hXX hnc hns (by omega) (by omega) hj18 hh
                                    · refine rw_iconst E (v := 0) (by decide) dL_law_856 ?_
                                      cases hh
                                  · rw [if_neg c33_15] at hh
                                    by_cases c33_16 : v2 = 16
                                    · rw [if_pos c33_16] at hh
                                      refine rw_swin E (v := 16) (tgt := 858) dL_law_33 c33_16 (by decide) (by decide) rfl (by decide) ?_
                                      refine rw_aload_n E (j0 := 1) rfl rfl dL_law_858 ?_
                                      refine rw_aloadr_n E (j0 := 0) rfl rfl dL_law_859 ?_
                                      refine rw_iload_n E (j0 := 3) rfl rfl dL_law_860 ?_
                                      refine rw_iconst E (v := 1) (by decide) dL_law_861 ?_
                                      refine rw_iadd E dL_law_862 ?_
                                      refine rw_sld E hh hXX dL_law_863 (fun v191 hh => ?_)
                                      refine rw_aloadr_n E (j0 := 0) rfl rfl dL_law_864 ?_
                                      refine rw_iload_n E (j0 := 3) rfl rfl dL_law_865 ?_
                                      refine rw_iconst E (v := 2) (by decide) dL_law_866 ?_
                                      refine rw_iadd E dL_law_867 ?_
                                      refine rw_sld E hh hXX dL_law_868 (fun v192 hh => ?_)
                                      refine rw_aloadr_n E (j0 := 0) rfl rfl dL_law_869 ?_
                                      refine rw_iload_n E (j0 := 3) rfl rfl dL_law_870 ?_
                                      refine rw_iconst E (v := 3) (by decide) dL_law_871 ?_
                                      refine rw_iadd E dL_law_872 ?_
                                      refine rw_sld E hh hXX dL_law_873 (fun v193 hh => ?_)
                                      refine rw_aloadr_n E (j0 := 0) rfl rfl dL_law_874 ?_
                                      refine rw_iload_n E (j0 := 3) rfl rfl dL_law_875 ?_
                                      refine rw_iconst E (v := 4) (by decide) dL_law_876 ?_
                                      refine rw_iadd E dL_law_877 ?_
                                      refine rw_sld E hh hXX dL_law_878 (fun v194 hh => ?_)
                                      refine rw_aloadr_n E (j0 := 0) rfl rfl dL_law_879 ?_
                                      refine rw_iload_n E (j0 := 3) rfl rfl dL_law_880 ?_
                                      refine rw_iconst E (v := 5) (by decide) dL_law_881 ?_
                                      refine rw_iadd E dL_law_882 ?_
                                      refine rw_sld E hh hXX dL_law_883 (fun v195 hh => ?_)
                                      refine rw_cVi E (As := [.int v191, .int v192, .int v193, .int v194, .int v195]) hh (by decide) rfl (fun _ _ _ hq => c_X11_parts l b0 G _ _ _ _ _ _ _ _ _ hq) (cwV 5 E.2.2.2.2.1 gL_law_X11_parts rfl rfl rfl (by decide +kernel) ⟨Nat.le_of_ble_eq_true rfl, Nat.le_of_ble_eq_true rfl⟩) rfl rfl (by (try simp only [List.map_cons, List.map_nil, List.sum_cons, List.sum_nil, hrf_cat, cat_i, cat_l, cat_r]) <;> decide) ⟨(show _ ≤ 600000 by omega), (show _ ≤ 7302250 by omega)⟩ dL_law_884 (fun v197 S196 hh => ?_)
                                      refine rw_aload_n E (j0 := 2) rfl rfl dL_law_887 ?_
                                      refine rw_aloadr_n E (j0 := 0) rfl rfl dL_law_888 ?_
                                      refine rw_iload_n E (j0 := 3) rfl rfl dL_law_889 ?_
                                      refine rw_iconst E (v := 1) (by decide) dL_law_890 ?_
                                      refine rw_iadd E dL_law_891 ?_
                                      refine rw_sld E hh hXX dL_law_892 (fun v199 hh => ?_)
                                      refine rw_aloadr_n E (j0 := 0) rfl rfl dL_law_893 ?_
                                      refine rw_iload_n E (j0 := 3) rfl rfl dL_law_894 ?_
                                      refine rw_iconst E (v := 2) (by decide) dL_law_895 ?_
                                      refine rw_iadd E dL_law_896 ?_
                                      refine rw_sld E hh hXX dL_law_897 (fun v200 hh => ?_)
                                      refine rw_aloadr_n E (j0 := 0) rfl rfl dL_law_898 ?_
                                      refine rw_iload_n E (j0 := 3) rfl rfl dL_law_899 ?_
                                      refine rw_iconst E (v := 3) (by decide) dL_law_900 ?_
                                      refine rw_iadd E dL_law_901 ?_
                                      refine rw_sld E hh hXX dL_law_902 (fun v201 hh => ?_)
                                      refine rw_aloadr_n E (j0 := 0) rfl rfl dL_law_903 ?_
                                      refine rw_iload_n E (j0 := 3) rfl rfl dL_law_904 ?_
                                      refine rw_iconst E (v := 4) (by decide) dL_law_905 ?_
                                      refine rw_iadd E dL_law_906 ?_
                                      refine rw_sld E hh hXX dL_law_907 (fun v202 hh => ?_)
                                      refine rw_aloadr_n E (j0 := 0) rfl rfl dL_law_908 ?_
                                      refine rw_iload_n E (j0 := 3) rfl rfl dL_law_909 ?_
                                      refine rw_iconst E (v := 5) (by decide) dL_law_910 ?_
                                      refine rw_iadd E dL_law_911 ?_
                                      refine rw_sld E hh hXX dL_law_912 (fun v203 hh => ?_)
                                      refine rw_cVi E (As := [.int v199, .int v200, .int v201, .int v202, .int v203]) hh (by decide) rfl (fun _ _ _ hq => c_X12_parts l b0 G _ _ _ _ _ _ _ _ _ hq) (cwV 5 E.2.2.2.2.1 gL_law_X12_parts rfl rfl rfl (by decide +kernel) ⟨Nat.le_of_ble_eq_true rfl, Nat.le_of_ble_eq_true rfl⟩) rfl rfl (by (try simp only [List.map_cons, List.map_nil, List.sum_cons, List.sum_nil, hrf_cat, cat_i, cat_l, cat_r]) <;> decide) ⟨(show _ ≤ 600000 by omega), (show _ ≤ 7302250 by omega)⟩ dL_law_913 (fun v205 S204 hh => ?_)
                                      refine rw_icmp_eq E hh (tgt := 1332) (by decide) dL_law_916 (fun hh => ?_) (fun hh => ?_)
                                      · refine WH.pick [0, 1, 2, 3] rfl ?_
                                        exact w_L_law_b1332 E hrt hlk hXX hnc hns (by omega) (by omega) hj18 hh
                                      · refine rw_iconst E (v := 0) (by decide) dL_law_919 ?_
                                        cases hh
                                    · rw [if_neg c33_16] at hh
                                      by_cases c33_17 : v2 = 17
                                      · rw [if_pos c33_17] at hh
                                        refine rw_swin E (v := 17) (tgt := 921) dL_law_33 c33_17 (by decide) (by decide) rfl (by decide) ?_
                                        refine rw_aload_n E (j0 := 1) rfl rfl dL_law_921 ?_
                                        refine rw_aloadr_n E (j0 := 0) rfl rfl dL_law_922 ?_
                                        refine rw_iload_n E (j0 := 3) rfl rfl dL_law_923 ?_
                                        refine rw_iconst E (v := 1) (by decide) dL_law_924 ?_
                                        refine rw_iadd E dL_law_925 ?_
                                        refine rw_sld E hh hXX dL_law_926 (fun v207 hh => ?_)
                                        refine rw_aloadr_n E (j0 := 0) rfl rfl dL_law_927 ?_
                                        refine rw_iload_n E (j0 := 3) rfl rfl dL_law_928 ?_
                                        refine rw_iconst E (v := 2) (by decide) dL_law_929 ?_
                                        refine rw_iadd E dL_law_930 ?_
                                        refine rw_sld E hh hXX dL_law_931 (fun v208 hh => ?_)
                                        refine rw_aloadr_n E (j0 := 0) rfl rfl dL_law_932 ?_
                                        refine rw_iload_n E (j0 := 3) rfl rfl dL_law_933 ?_
                                        refine rw_iconst E (v := 3) (by decide) dL_law_934 ?_
                                        refine rw_iadd E dL_law_935 ?_
                                        refine rw_sld E hh hXX dL_law_936 (fun v209 hh => ?_)
                                        refine rw_aloadr_n E (j0 := 0) rfl rfl dL_law_937 ?_
                                        refine rw_iload_n E (j0 := 3) rfl rfl dL_law_938 ?_
                                        refine rw_iconst E (v := 4) (by decide) dL_law_939 ?_
                                        refine rw_iadd E dL_law_940 ?_
                                        refine rw_sld E hh hXX dL_law_941 (fun v210 hh => ?_)
                                        refine rw_aloadr_n E (j0 := 0) rfl rfl dL_law_942 ?_
                                        refine rw_iload_n E (j0 := 3) rfl rfl dL_law_943 ?_
                                        refine rw_iconst E (v := 5) (by decide) dL_law_944 ?_
                                        refine rw_iadd E dL_law_945 ?_
                                        refine rw_sld E hh hXX dL_law_946 (fun v211 hh => ?_)
                                        refine rw_cVi E (As := [.int v207, .int v208, .int v209, .int v210, .int v211]) hh (by decide) rfl (fun _ _ _ hq => c_X11_lamp l b0 G _ _ _ _ _ _ _ _ _ hq) (cwV 5 E.2.2.2.2.1 gL_law_X11_lamp rfl rfl rfl (by decide +kernel) ⟨Nat.le_of_ble_eq_true rfl, Nat.le_of_ble_eq_true rfl⟩) rfl rfl (by (try simp only [List.map_cons, List.map_nil, List.sum_cons, List.sum_nil, hrf_cat, cat_i, cat_l, cat_r]) <;> decide) ⟨(show _ ≤ 600000 by omega), (show _ ≤ 7302250 by omega)⟩ dL_law_947 (fun v213 S212 hh => ?_)
                                        refine rw_aload_n E (j0 := 2) rfl rfl dL_law_950 ?_
                                        refine rw_aloadr_n E (j0 := 0) rfl rfl dL_law_951 ?_
                                        refine rw_iload_n E (j0 := 3) rfl rfl dL_law_952 ?_
                                        refine rw_iconst E (v := 1) (by decide) dL_law_953 ?_
                                        refine rw_iadd E dL_law_954 ?_
                                        refine rw_sld E hh hXX dL_law_955 (fun v215 hh => ?_)
                                        refine rw_aloadr_n E (j0 := 0) rfl rfl dL_law_956 ?_
                                        refine rw_iload_n E (j0 := 3) rfl rfl dL_law_957 ?_
                                        refine rw_iconst E (v := 2) (by decide) dL_law_958 ?_
                                        refine rw_iadd E dL_law_959 ?_
                                        refine rw_sld E hh hXX dL_law_960 (fun v216 hh => ?_)
                                        refine rw_aloadr_n E (j0 := 0) rfl rfl dL_law_961 ?_
                                        refine rw_iload_n E (j0 := 3) rfl rfl dL_law_962 ?_
                                        refine rw_iconst E (v := 3) (by decide) dL_law_963 ?_
                                        refine rw_iadd E dL_law_964 ?_
                                        refine rw_sld E hh hXX dL_law_965 (fun v217 hh => ?_)
                                        refine rw_aloadr_n E (j0 := 0) rfl rfl dL_law_966 ?_
                                        refine rw_iload_n E (j0 := 3) rfl rfl dL_law_967 ?_
                                        refine rw_iconst E (v := 4) (by decide) dL_law_968 ?_
                                        refine rw_iadd E dL_law_969 ?_
                                        refine rw_sld E hh hXX dL_law_970 (fun v218 hh => ?_)
                                        refine rw_aloadr_n E (j0 := 0) rfl rfl dL_law_971 ?_
                                        refine rw_iload_n E (j0 := 3) rfl rfl dL_law_972 ?_
                                        refine rw_iconst E (v := 5) (by decide) dL_law_973 ?_
                                        refine rw_iadd E dL_law_974 ?_
                                        refine rw_sld E hh hXX dL_law_975 (fun v219 hh => ?_)
                                        refine rw_cVi E (As := [.int v215, .int v216, .int v217, .int v218, .int v219]) hh (by decide) rfl (fun _ _ _ hq => c_X12_lamp l b0 G _ _ _ _ _ _ _ _ _ hq) (cwV 5 E.2.2.2.2.1 gL_law_X12_lamp rfl rfl rfl (by decide +kernel) ⟨Nat.le_of_ble_eq_true rfl, Nat.le_of_ble_eq_true rfl⟩) rfl rfl (by (try simp only [List.map_cons, List.map_nil, List.sum_cons, List.sum_nil, hrf_cat, cat_i, cat_l, cat_r]) <;> decide) ⟨(show _ ≤ 600000 by omega), (show _ ≤ 7302250 by omega)⟩ dL_law_976 (fun v221 S220 hh => ?_)
                                        refine rw_icmp_eq E hh (tgt := 1332) (by decide) dL_law_979 (fun hh => ?_) (fun hh => ?_)
                                        · refine WH.pick [0, 1, 2, 3] rfl ?_
                                          exact w_L_law_b1332 E hrt hlk hXX hnc hns (by omega) (by omega) hj18 hh
                                        · refine rw_iconst E (v := 0) (by decide) dL_law_982 ?_
                                          cases hh
                                      · rw [if_neg c33_17] at hh
                                        by_cases c33_18 : v2 = 18
                                        · rw [if_pos c33_18] at hh
                                          refine rw_swin E (v := 18) (tgt := 984) dL_law_33 c33_18 (by decide) (by decide) rfl (by decide) ?_
                                          refine rw_aload_n E (j0 := 1) rfl rfl dL_law_984 ?_
                                          refine rw_aloadr_n E (j0 := 0) rfl rfl dL_law_985 ?_
                                          refine rw_iload_n E (j0 := 3) rfl rfl dL_law_986 ?_
                                          refine rw_iconst E (v := 1) (by decide) dL_law_987 ?_
                                          refine rw_iadd E dL_law_988 ?_
                                          refine rw_sld E hh hXX dL_law_989 (fun v223 hh => ?_)
                                          refine rw_aloadr_n E (j0 := 0) rfl rfl dL_law_990 ?_
                                          refine rw_iload_n E (j0 := 3) rfl rfl dL_law_991 ?_
                                          refine rw_iconst E (v := 2) (by decide) dL_law_992 ?_
                                          refine rw_iadd E dL_law_993 ?_
                                          refine rw_sld E hh hXX dL_law_994 (fun v224 hh => ?_)
                                          refine rw_cVi E (As := [.int v223, .int v224]) hh (by decide) rfl (fun _ _ _ hq => c_X11_wobble l b0 G _ _ _ _ _ _ hq) (cwV 2 E.2.2.2.2.1 gL_law_X11_wobble rfl rfl rfl (by decide +kernel) ⟨Nat.le_of_ble_eq_true rfl, Nat.le_of_ble_eq_true rfl⟩) rfl rfl (by (try simp only [List.map_cons, List.map_nil, List.sum_cons, List.sum_nil, hrf_cat, cat_i, cat_l, cat_r]) <;> decide) ⟨(show _ ≤ 600000 by omega), (show _ ≤ 7302250 by omega)⟩ dL_law_995 (fun v226 S225 hh => ?_)
                                          refine rw_aload_n E (j0 := 2) rfl rfl dL_law_998 ?_
                                          refine rw_aloadr_n E (j0 := 0) rfl rfl dL_law_999 ?_
                                          refine rw_iload_n E (j0 := 3) rfl rfl dL_law_1000 ?_
                                          refine rw_iconst E (v := 1) (by decide) dL_law_1001 ?_
                                          refine rw_iadd E dL_law_1002 ?_
                                          refine rw_sld E hh hXX dL_law_1003 (fun v228 hh => ?_)
                                          refine rw_aloadr_n E (j0 := 0) rfl rfl dL_law_1004 ?_
                                          refine rw_iload_n E (j0 := 3) rfl rfl dL_law_1005 ?_
                                          refine rw_iconst E (v := 2) (by decide) dL_law_1006 ?_
                                          refine rw_iadd E dL_law_1007 ?_
                                          refine rw_sld E hh hXX dL_law_1008 (fun v229 hh => ?_)
                                          refine rw_cVi E (As := [.int v228, .int v229]) hh (by decide) rfl (fun _ _ _ hq => c_X12_wobble l b0 G _ _ _ _ _ _ hq) (cwV 2 E.2.2.2.2.1 gL_law_X12_wobble rfl rfl rfl (by decide +kernel) ⟨Nat.le_of_ble_eq_true rfl, Nat.le_of_ble_eq_true rfl⟩) rfl rfl (by (try simp only [List.map_cons, List.map_nil, List.sum_cons, List.sum_nil, hrf_cat, cat_i, cat_l, cat_r]) <;> decide) ⟨(show _ ≤ 600000 by omega), (show _ ≤ 7302250 by omega)⟩ dL_law_1009 (fun v231 S230 hh => ?_)
                                          refine rw_icmp_eq E hh (tgt := 1332) (by decide) dL_law_1012 (fun hh => ?_) (fun hh => ?_)
                                          · refine WH.pick [0, 1, 2, 3] rfl ?_
                                            exact w_L_law_b1332 E hrt hlk hXX hnc hns (by omega) (by omega) hj18 hh
                                          · refine rw_iconst E (v := 0) (by decide) dL_law_1015 ?_
                                            cases hh
                                        · rw [if_neg c33_18] at hh
                                          by_cases c33_19 : v2 = 19
                                          · rw [if_pos c33_19] at hh
                                            refine rw_swin E (v := 19) (tgt := 1017) dL_law_33 c33_19 (by decide) (by decide) rfl (by decide) ?_
                                            refine rw_aload_n E (j0 := 1) rfl rfl dL_law_1017 ?_
                                            refine rw_aloadr_n E (j0 := 0) rfl rfl dL_law_1018 ?_
                                            refine rw_iload_n E (j0 := 3) rfl rfl dL_law_1019 ?_
                                            refine rw_iconst E (v := 1) (by decide) dL_law_1020 ?_
                                            refine rw_iadd E dL_law_1021 ?_
                                            refine rw_sld E hh hXX dL_law_1022 (fun v233 hh => ?_)
                                            refine rw_aloadr_n E (j0 := 0) rfl rfl dL_law_1023 ?_
                                            refine rw_iload_n E (j0 := 3) rfl rfl dL_law_1024 ?_
                                            refine rw_iconst E (v := 2) (by decide) dL_law_1025 ?_
                                            refine rw_iadd E dL_law_1026 ?_
                                            refine rw_sld E hh hXX dL_law_1027 (fun v234 hh => ?_)
                                            refine rw_aloadr_n E (j0 := 0) rfl rfl dL_law_1028 ?_
                                            refine rw_iload_n E (j0 := 3) rfl rfl dL_law_1029 ?_
                                            refine rw_iconst E (v := 3) (by decide) dL_law_1030 ?_
                                            refine rw_iadd E dL_law_1031 ?_
                                            refine rw_sld E hh hXX dL_law_1032 (fun v235 hh => ?_)
                                            refine rw_aloadr_n E (j0 := 0) rfl rfl dL_law_1033 ?_
                                            refine rw_iload_n E (j0 := 3) rfl rfl dL_law_1034 ?_
                                            refine rw_iconst E (v := 4) (by decide) dL_law_1035 ?_
                                            refine rw_iadd E dL_law_1036 ?_
                                            refine rw_sld E hh hXX dL_law_1037 (fun v236 hh => ?_)
                                            refine rw_aloadr_n E (j0 := 0) rfl rfl dL_law_1038 ?_
                                            refine rw_iload_n E (j0 := 3) rfl rfl dL_law_1039 ?_
                                            refine rw_iconst E (v := 5) (by decide) dL_law_1040 ?_
                                            refine rw_iadd E dL_law_1041 ?_
                                            refine rw_sld E hh hXX dL_law_1042 (fun v237 hh => ?_)
                                            refine rw_cVi E (As := [.int v233, .int v234, .int v235, .int v236, .int v237]) hh (by decide) rfl (fun _ _ _ hq => c_X11_sound l b0 G _ _ _ _ _ _ _ _ _ hq) (cwV 5 E.2.2.2.2.1 gL_law_X11_sound rfl rfl rfl (by decide +kernel) ⟨Nat.le_of_ble_eq_true rfl, Nat.le_of_ble_eq_true rfl⟩) rfl rfl (by (try simp only [List.map_cons, List.map_nil, List.sum_cons, List.sum_nil, hrf_cat, cat_i, cat_l, cat_r]) <;> decide) ⟨(show _ ≤ 600000 by omega), (show _ ≤ 7302250 by omega)⟩ dL_law_1043 (fun v239 S238 hh => ?_)
                                            refine rw_aload_n E (j0 := 2) rfl rfl dL_law_1046 ?_
                                            refine rw_aloadr_n E (j0 := 0) rfl rfl dL_law_1047 ?_
                                            refine rw_iload_n E (j0 := 3) rfl rfl dL_law_1048 ?_
                                            refine rw_iconst E (v := 1) (by decide) dL_law_1049 ?_
                                            refine rw_iadd E dL_law_1050 ?_
                                            refine rw_sld E hh hXX dL_law_1051 (fun v241 hh => ?_)
                                            refine rw_aloadr_n E (j0 := 0) rfl rfl dL_law_1052 ?_
                                            refine rw_iload_n E (j0 := 3) rfl rfl dL_law_1053 ?_
                                            refine rw_iconst E (v := 2) (by decide) dL_law_1054 ?_
                                            refine rw_iadd E dL_law_1055 ?_
                                            refine rw_sld E hh hXX dL_law_1056 (fun v242 hh => ?_)
                                            refine rw_aloadr_n E (j0 := 0) rfl rfl dL_law_1057 ?_
                                            refine rw_iload_n E (j0 := 3) rfl rfl dL_law_1058 ?_
                                            refine rw_iconst E (v := 3) (by decide) dL_law_1059 ?_
                                            refine rw_iadd E dL_law_1060 ?_
                                            refine rw_sld E hh hXX dL_law_1061 (fun v243 hh => ?_)
                                            refine rw_aloadr_n E (j0 := 0) rfl rfl dL_law_1062 ?_
                                            refine rw_iload_n E (j0 := 3) rfl rfl dL_law_1063 ?_
                                            refine rw_iconst E (v := 4) (by decide) dL_law_1064 ?_
                                            refine rw_iadd E dL_law_1065 ?_
                                            refine rw_sld E hh hXX dL_law_1066 (fun v244 hh => ?_)
                                            refine rw_aloadr_n E (j0 := 0) rfl rfl dL_law_1067 ?_
                                            refine rw_iload_n E (j0 := 3) rfl rfl dL_law_1068 ?_
                                            refine rw_iconst E (v := 5) (by decide) dL_law_1069 ?_
                                            refine rw_iadd E dL_law_1070 ?_
                                            refine rw_sld E hh hXX dL_law_1071 (fun v245 hh => ?_)
                                            refine rw_cVi E (As := [.int v241, .int v242, .int v243, .int v244, .int v245]) hh (by decide) rfl (fun _ _ _ hq => c_X12_sound l b0 G _ _ _ _ _ _ _ _ _ hq) (cwV 5 E.2.2.2.2.1 gL_law_X12_sound rfl rfl rfl (by decide +kernel) ⟨Nat.le_of_ble_eq_true rfl, Nat.le_of_ble_eq_true rfl⟩) rfl rfl (by (try simp only [List.map_cons, List.map_nil, List.sum_cons, List.sum_nil, hrf_cat, cat_i, cat_l, cat_r]) <;> decide) ⟨(show _ ≤ 600000 by omega), (show _ ≤ 7302250 by omega)⟩ dL_law_1072 (fun v247 S246 hh => ?_)
                                            refine rw_icmp_eq E hh (tgt := 1332) (by decide) dL_law_1075 (fun hh => ?_) (fun hh => ?_)
                                            · refine WH.pick [0, 1, 2, 3] rfl ?_
                                              exact w_L_law_b1332 E hrt hlk hXX hnc hns (by omega) (by omega) hj18 hh
                                            · refine rw_iconst E (v := 0) (by decide) dL_law_1078 ?_
                                              cases hh
                                          · rw [if_neg c33_19] at hh
                                            by_cases c33_20 : v2 = 20
                                            · rw [if_pos c33_20] at hh
                                              refine rw_swin E (v := 20) (tgt := 1080) dL_law_33 c33_20 (by decide) (by decide) rfl (by decide) ?_
                                              refine rw_aload_n E (j0 := 1) rfl rfl dL_law_1080 ?_
                                              refine rw_aloadr_n E (j0 := 0) rfl rfl dL_law_1081 ?_
                                              refine rw_iload_n E (j0 := 3) rfl rfl dL_law_1082 ?_
                                              refine rw_iconst E (v := 1) (by decide) dL_law_1083 ?_
                                              refine rw_iadd E dL_law_1084 ?_
                                              refine rw_sld E hh hXX dL_law_1085 (fun v249 hh => ?_)
                                              refine rw_aloadr_n E (j0 := 0) rfl rfl dL_law_1086 ?_
                                              refine rw_iload_n E (j0 := 3) rfl rfl dL_law_1087 ?_
                                              refine rw_iconst E (v := 2) (by decide) dL_law_1088 ?_
                                              refine rw_iadd E dL_law_1089 ?_
                                              refine rw_sld E hh hXX dL_law_1090 (fun v250 hh => ?_)
                                              refine rw_aloadr_n E (j0 := 0) rfl rfl dL_law_1091 ?_
                                              refine rw_iload_n E (j0 := 3) rfl rfl dL_law_1092 ?_
                                              refine rw_iconst E (v := 3) (by decide) dL_law_1093 ?_
                                              refine rw_iadd E dL_law_1094 ?_
                                              refine rw_sld E hh hXX dL_law_1095 (fun v251 hh => ?_)
                                              refine rw_aloadr_n E (j0 := 0) rfl rfl dL_law_1096 ?_
                                              refine rw_iload_n E (j0 := 3) rfl rfl dL_law_1097 ?_
                                              refine rw_iconst E (v := 4) (by decide) dL_law_1098 ?_
                                              refine rw_iadd E dL_law_1099 ?_
                                              refine rw_sld E hh hXX dL_law_1100 (fun v252 hh => ?_)
                                              refine rw_aloadr_n E (j0 := 0) rfl rfl dL_law_1101 ?_
                                              refine rw_iload_n E (j0 := 3) rfl rfl dL_law_1102 ?_
                                              refine rw_iconst E (v := 5) (by decide) dL_law_1103 ?_
                                              refine rw_iadd E dL_law_1104 ?_
                                              refine rw_sld E hh hXX dL_law_1105 (fun v253 hh => ?_)
                                              refine rw_aloadr_n E (j0 := 0) rfl rfl dL_law_1106 ?_
                                              refine rw_iload_n E (j0 := 3) rfl rfl dL_law_1107 ?_
                                              refine rw_bipush E (v := 6) (by decide) dL_law_1108 ?_
                                              refine rw_iadd E dL_law_1110 ?_
                                              refine rw_sld E hh hXX dL_law_1111 (fun v254 hh => ?_)
                                              refine rw_cVi E (As := [.int v249, .int v250, .int v251, .int v252, .int v253, .int v254]) hh (by decide) rfl (fun _ _ _ hq => c_X11_tune l b0 G _ _ _ _ _ _ _ _ _ _ hq) (cwV 6 E.2.2.2.2.1 gL_law_X11_tune rfl rfl rfl (by decide +kernel) ⟨Nat.le_of_ble_eq_true rfl, Nat.le_of_ble_eq_true rfl⟩) rfl rfl (by (try simp only [List.map_cons, List.map_nil, List.sum_cons, List.sum_nil, hrf_cat, cat_i, cat_l, cat_r]) <;> decide) ⟨(show _ ≤ 600000 by omega), (show _ ≤ 7302250 by omega)⟩ dL_law_1112 (fun v256 S255 hh => ?_)
                                              refine rw_aload_n E (j0 := 2) rfl rfl dL_law_1115 ?_
                                              refine rw_aloadr_n E (j0 := 0) rfl rfl dL_law_1116 ?_
                                              refine rw_iload_n E (j0 := 3) rfl rfl dL_law_1117 ?_
                                              refine rw_iconst E (v := 1) (by decide) dL_law_1118 ?_
                                              refine rw_iadd E dL_law_1119 ?_
                                              refine rw_sld E hh hXX dL_law_1120 (fun v258 hh => ?_)
                                              refine rw_aloadr_n E (j0 := 0) rfl rfl dL_law_1121 ?_
                                              refine rw_iload_n E (j0 := 3) rfl rfl dL_law_1122 ?_
                                              refine rw_iconst E (v := 2) (by decide) dL_law_1123 ?_
                                              refine rw_iadd E dL_law_1124 ?_
                                              refine rw_sld E hh hXX dL_law_1125 (fun v259 hh => ?_)
                                              refine rw_aloadr_n E (j0 := 0) rfl rfl dL_law_1126 ?_
                                              refine rw_iload_n E (j0 := 3) rfl rfl dL_law_1127 ?_
                                              refine rw_iconst E (v := 3) (by decide) dL_law_1128 ?_
                                              refine rw_iadd E dL_law_1129 ?_
                                              refine rw_sld E hh hXX dL_law_1130 (fun v260 hh => ?_)
                                              refine rw_aloadr_n E (j0 := 0) rfl rfl dL_law_1131 ?_
                                              refine rw_iload_n E (j0 := 3) rfl rfl dL_law_1132 ?_
                                              refine rw_iconst E (v := 4) (by decide) dL_law_1133 ?_
                                              refine rw_iadd E dL_law_1134 ?_
                                              refine rw_sld E hh hXX dL_law_1135 (fun v261 hh => ?_)
                                              refine rw_aloadr_n E (j0 := 0) rfl rfl dL_law_1136 ?_
                                              refine rw_iload_n E (j0 := 3) rfl rfl dL_law_1137 ?_
                                              refine rw_iconst E (v := 5) (by decide) dL_law_1138 ?_
                                              refine rw_iadd E dL_law_1139 ?_
                                              refine rw_sld E hh hXX dL_law_1140 (fun v262 hh => ?_)
                                              refine rw_aloadr_n E (j0 := 0) rfl rfl dL_law_1141 ?_
                                              refine rw_iload_n E (j0 := 3) rfl rfl dL_law_1142 ?_
                                              refine rw_bipush E (v := 6) (by decide) dL_law_1143 ?_
                                              refine rw_iadd E dL_law_1145 ?_
                                              refine rw_sld E hh hXX dL_law_1146 (fun v263 hh => ?_)
                                              refine rw_cVi E (As := [.int v258, .int v259, .int v260, .int v261, .int v262, .int v263]) hh (by decide) rfl (fun _ _ _ hq => c_X12_tune l b0 G _ _ _ _ _ _ _ _ _ _ hq) (cwV 6 E.2.2.2.2.1 gL_law_X12_tune rfl rfl rfl (by decide +kernel) ⟨Nat.le_of_ble_eq_true rfl, Nat.le_of_ble_eq_true rfl⟩) rfl rfl (by (try simp only [List.map_cons, List.map_nil, List.sum_cons, List.sum_nil, hrf_cat, cat_i, cat_l, cat_r]) <;> decide) ⟨(show _ ≤ 600000 by omega), (show _ ≤ 7302250 by omega)⟩ dL_law_1147 (fun v265 S264 hh => ?_)
                                              refine rw_icmp_eq E hh (tgt := 1332) (by decide) dL_law_1150 (fun hh => ?_) (fun hh => ?_)
                                              · refine WH.pick [0, 1, 2, 3] rfl ?_
                                                exact w_L_law_b1332 E hrt hlk hXX hnc hns (by omega) (by omega) hj18 hh
                                              · refine rw_iconst E (v := 0) (by decide) dL_law_1153 ?_
                                                cases hh
                                            · rw [if_neg c33_20] at hh
                                              by_cases c33_21 : v2 = 21
                                              · rw [if_pos c33_21] at hh
                                                refine rw_swin E (v := 21) (tgt := 1155) dL_law_33 c33_21 (by decide) (by decide) rfl (by decide) ?_
                                                refine rw_aload_n E (j0 := 1) rfl rfl dL_law_1155 ?_
                                                refine rw_cVi E (As := []) hh (by decide) rfl (fun _ _ _ hq => c_X11_forces l b0 G _ _ _ _ hq) (cwV 0 E.2.2.2.2.1 gL_law_X11_forces rfl rfl rfl (by decide +kernel) ⟨Nat.le_of_ble_eq_true rfl, Nat.le_of_ble_eq_true rfl⟩) rfl rfl (by (try simp only [List.map_cons, List.map_nil, List.sum_cons, List.sum_nil, hrf_cat, cat_i, cat_l, cat_r]) <;> decide) ⟨(show _ ≤ 600000 by omega), (show _ ≤ 7302250 by omega)⟩ dL_law_1156 (fun v268 S267 hh => ?_)
                                                refine rw_aload_n E (j0 := 2) rfl rfl dL_law_1159 ?_
                                                refine rw_cVi E (As := []) hh (by decide) rfl (fun _ _ _ hq => c_X12_forces l b0 G _ _ _ _ hq) (cwV 0 E.2.2.2.2.1 gL_law_X12_forces rfl rfl rfl (by decide +kernel) ⟨Nat.le_of_ble_eq_true rfl, Nat.le_of_ble_eq_true rfl⟩) rfl rfl (by (try simp only [List.map_cons, List.map_nil, List.sum_cons, List.sum_nil, hrf_cat, cat_i, cat_l, cat_r]) <;> decide) ⟨(show _ ≤ 600000 by omega), (show _ ≤ 7302250 by omega)⟩ dL_law_1160 (fun v271 S270 hh => ?_)
                                                refine rw_icmp_eq E hh (tgt := 1332) (by decide) dL_law_1163 (fun hh => ?_) (fun hh => ?_)
                                                · refine WH.pick [0, 1, 2, 3] rfl ?_
                                                  exact w_L_law_b1332 E hrt hlk hXX hnc hns (by omega) (by omega) hj18 hh
                                                · refine rw_iconst E (v := 0) (by decide) dL_law_1166 ?_
                                                  cases hh
                                              · rw [if_neg c33_21] at hh
                                                by_cases c33_22 : v2 = 22
                                                · rw [if_pos c33_22] at hh
                                                  refine rw_swin E (v := 22) (tgt := 1168) dL_law_33 c33_22 (by decide) (by decide) rfl (by decide) ?_
                                                  refine rw_aload_n E (j0 := 1) rfl rfl dL_law_1168 ?_
                                                  refine rw_aloadr_n E (j0 := 0) rfl rfl dL_law_1169 ?_
                                                  refine rw_iload_n E (j0 := 3) rfl rfl dL_law_1170 ?_
                                                  refine rw_iconst E (v := 1) (by decide) dL_law_1171 ?_
                                                  refine rw_iadd E dL_law_1172 ?_
                                                  refine rw_sld E hh hXX dL_law_1173 (fun v273 hh => ?_)
                                                  refine rw_cVi E (As := [.int v273]) hh (by decide) rfl (fun _ _ _ hq => c_X11_image l b0 G _ _ _ _ _ hq) (cwV 1 E.2.2.2.2.1 gL_law_X11_image rfl rfl rfl (by decide +kernel) ⟨Nat.le_of_ble_eq_true rfl, Nat.le_of_ble_eq_true rfl⟩) rfl rfl (by (try simp only [List.map_cons, List.map_nil, List.sum_cons, List.sum_nil, hrf_cat, cat_i, cat_l, cat_r]) <;> decide) ⟨(show _ ≤ 600000 by omega), (show _ ≤ 7302250 by omega)⟩ dL_law_1174 (fun v275 S274 hh => ?_)
                                                  refine rw_aload_n E (j0 := 2) rfl rfl dL_law_1177 ?_
                                                  refine rw_aloadr_n E (j0 := 0) rfl rfl dL_law_1178 ?_
                                                  refine rw_iload_n E (j0 := 3) rfl rfl dL_law_1179 ?_
                                                  refine rw_iconst E (v := 1) (by decide) dL_law_1180 ?_
                                                  refine rw_iadd E dL_law_1181 ?_
                                                  refine rw_sld E hh hXX dL_law_1182 (fun v277 hh => ?_)
                                                  refine rw_cVi E (As := [.int v277]) hh (by decide) rfl (fun _ _ _ hq => c_X12_image l b0 G _ _ _ _ _ hq) (cwV 1 E.2.2.2.2.1 gL_law_X12_image rfl rfl rfl (by decide +kernel) ⟨Nat.le_of_ble_eq_true rfl, Nat.le_of_ble_eq_true rfl⟩) rfl rfl (by (try simp only [List.map_cons, List.map_nil, List.sum_cons, List.sum_nil, hrf_cat, cat_i, cat_l, cat_r]) <;> decide) ⟨(show _ ≤ 600000 by omega), (show _ ≤ 7302250 by omega)⟩ dL_law_1183 (fun v279 S278 hh => ?_)
                                                  refine rw_icmp_eq E hh (tgt := 1332) (by decide) dL_law_1186 (fun hh => ?_) (fun hh => ?_)
                                                  · refine WH.pick [0, 1, 2, 3] rfl ?_
                                                    exact w_L_law_b1332 E hrt hlk hXX hnc hns (by omega) (by omega) hj18 hh
                                                  · refine rw_iconst E (v := 0) (by decide) dL_law_1189 ?_
                                                    cases hh
                                                · rw [if_neg c33_22] at hh
                                                  by_cases c33_23 : v2 = 23
                                                  · rw [if_pos c33_23] at hh
                                                    refine rw_swin E (v := 23) (tgt := 1191) dL_law_33 c33_23 (by decide) (by decide) rfl (by decide) ?_
                                                    refine rw_aload_n E (j0 := 1) rfl rfl dL_law_1191 ?_
                                                    refine rw_aloadr_n E (j0 := 0) rfl rfl dL_law_1192 ?_
                                                    refine rw_iload_n E (j0 := 3) rfl rfl dL_law_1193 ?_
                                                    refine rw_iconst E (v := 1) (by decide) dL_law_1194 ?_
                                                    refine rw_iadd E dL_law_1195 ?_
                                                    refine rw_sld E hh hXX dL_law_1196 (fun v281 hh => ?_)
                                                    refine rw_cVi E (As := [.int v281]) hh (by decide) rfl (fun _ _ _ hq => c_X11_restore l b0 G _ _ _ _ _ hq) (cwV 1 E.2.2.2.2.1 gL_law_X11_restore rfl rfl rfl (by decide +kernel) ⟨Nat.le_of_ble_eq_true rfl, Nat.le_of_ble_eq_true rfl⟩) rfl rfl (by (try simp only [List.map_cons, List.map_nil, List.sum_cons, List.sum_nil, hrf_cat, cat_i, cat_l, cat_r]) <;> decide) ⟨(show _ ≤ 600000 by omega), (show _ ≤ 7302250 by omega)⟩ dL_law_1197 (fun v283 S282 hh => ?_)
                                                    refine rw_aload_n E (j0 := 2) rfl rfl dL_law_1200 ?_
                                                    refine rw_aloadr_n E (j0 := 0) rfl rfl dL_law_1201 ?_
                                                    refine rw_iload_n E (j0 := 3) rfl rfl dL_law_1202 ?_
                                                    refine rw_iconst E (v := 1) (by decide) dL_law_1203 ?_
                                                    refine rw_iadd E dL_law_1204 ?_
                                                    refine rw_sld E hh hXX dL_law_1205 (fun v285 hh => ?_)
                                                    refine rw_cVi E (As := [.int v285]) hh (by decide) rfl (fun _ _ _ hq => c_X12_restore l b0 G _ _ _ _ _ hq) (cwV 1 E.2.2.2.2.1 gL_law_X12_restore rfl rfl rfl (by decide +kernel) ⟨Nat.le_of_ble_eq_true rfl, Nat.le_of_ble_eq_true rfl⟩) rfl rfl (by (try simp only [List.map_cons, List.map_nil, List.sum_cons, List.sum_nil, hrf_cat, cat_i, cat_l, cat_r]) <;> decide) ⟨(show _ ≤ 600000 by omega), (show _ ≤ 7302250 by omega)⟩ dL_law_1206 (fun v287 S286 hh => ?_)
                                                    refine rw_icmp_eq E hh (tgt := 1332) (by decide) dL_law_1209 (fun hh => ?_) (fun hh => ?_)
                                                    · refine WH.pick [0, 1, 2, 3] rfl ?_
                                                      exact w_L_law_b1332 E hrt hlk hXX hnc hns (by omega) (by omega) hj18 hh
                                                    · refine rw_iconst E (v := 0) (by decide) dL_law_1212 ?_
                                                      cases hh
                                                  · rw [if_neg c33_23] at hh
                                                    by_cases c33_24 : v2 = 24
                                                    · rw [if_pos c33_24] at hh
                                                      refine rw_swin E (v := 24) (tgt := 1214) dL_law_33 c33_24 (by decide) (by decide) rfl (by decide) ?_
                                                      refine rw_aload_n E (j0 := 1) rfl rfl dL_law_1214 ?_
                                                      refine rw_cVi E (As := []) hh (by decide) rfl (fun _ _ _ hq => c_X11_kind l b0 G _ _ _ _ hq) (cwV 0 E.2.2.2.2.1 gL_law_X11_kind rfl rfl rfl (by decide +kernel) ⟨Nat.le_of_ble_eq_true rfl, Nat.le_of_ble_eq_true rfl⟩) rfl rfl (by (try simp only [List.map_cons, List.map_nil, List.sum_cons, List.sum_nil, hrf_cat, cat_i, cat_l, cat_r]) <;> decide) ⟨(show _ ≤ 600000 by omega), (show _ ≤ 7302250 by omega)⟩ dL_law_1215 (fun v290 S289 hh => ?_)
                                                      refine rw_aload_n E (j0 := 2) rfl rfl dL_law_1218 ?_
                                                      refine rw_cVi E (As := []) hh (by decide) rfl (fun _ _ _ hq => c_X12_kind l b0 G _ _ _ _ hq) (cwV 0 E.2.2.2.2.1 gL_law_X12_kind rfl rfl rfl (by decide +kernel) ⟨Nat.le_of_ble_eq_true rfl, Nat.le_of_ble_eq_true rfl⟩) rfl rfl (by (try simp only [List.map_cons, List.map_nil, List.sum_cons, List.sum_nil, hrf_cat, cat_i, cat_l, cat_r]) <;> decide) ⟨(show _ ≤ 600000 by omega), (show _ ≤ 7302250 by omega)⟩ dL_law_1219 (fun v293 S292 hh => ?_)
                                                      refine rw_icmp_eq E hh (tgt := 1332) (by decide) dL_law_1222 (fun hh => ?_) (fun hh => ?_)
                                                      · refine WH.pick [0, 1, 2, 3] rfl ?_
                                                        exact w_L_law_b1332 E hrt hlk hXX hnc hns (by omega) (by omega) hj18 hh
                                                      · refine rw_iconst E (v := 0) (by decide) dL_law_1225 ?_
                                                        cases hh
                                                    · rw [if_neg c33_24] at hh
                                                      by_cases c33_25 : v2 = 25
                                                      · rw [if_pos c33_25] at hh
                                                        refine rw_swin E (v := 25) (tgt := 1227) dL_law_33 c33_25 (by decide) (by decide) rfl (by decide) ?_
                                                        refine rw_aload_n E (j0 := 1) rfl rfl dL_law_1227 ?_
                                                        refine rw_aloadr_n E (j0 := 0) rfl rfl dL_law_1228 ?_
                                                        refine rw_iload_n E (j0 := 3) rfl rfl dL_law_1229 ?_
                                                        refine rw_iconst E (v := 1) (by decide) dL_law_1230 ?_
                                                        refine rw_iadd E dL_law_1231 ?_
                                                        refine rw_sld E hh hXX dL_law_1232 (fun v295 hh => ?_)
                                                        refine rw_cVi E (As := [.int v295]) hh (by decide) rfl (fun _ _ _ hq => c_X11_as l b0 G _ _ _ _ _ hq) (cwV 1 E.2.2.2.2.1 gL_law_X11_as rfl rfl rfl (by decide +kernel) ⟨Nat.le_of_ble_eq_true rfl, Nat.le_of_ble_eq_true rfl⟩) rfl rfl (by (try simp only [List.map_cons, List.map_nil, List.sum_cons, List.sum_nil, hrf_cat, cat_i, cat_l, cat_r]) <;> decide) ⟨(show _ ≤ 600000 by omega), (show _ ≤ 7302250 by omega)⟩ dL_law_1233 (fun v297 S296 hh => ?_)
                                                        refine rw_aload_n E (j0 := 2) rfl rfl dL_law_1236 ?_
                                                        refine rw_aloadr_n E (j0 := 0) rfl rfl dL_law_1237 ?_
                                                        refine rw_iload_n E (j0 := 3) rfl rfl dL_law_1238 ?_
                                                        refine rw_iconst E (v := 1) (by decide) dL_law_1239 ?_
                                                        refine rw_iadd E dL_law_1240 ?_
                                                        refine rw_sld E hh hXX dL_law_1241 (fun v299 hh => ?_)
                                                        refine rw_cVi E (As := [.int v299]) hh (by decide) rfl (fun _ _ _ hq => c_X12_as l b0 G _ _ _ _ _ hq) (cwV 1 E.2.2.2.2.1 gL_law_X12_as rfl rfl rfl (by decide +kernel) ⟨Nat.le_of_ble_eq_true rfl, Nat.le_of_ble_eq_true rfl⟩) rfl rfl (by (try simp only [List.map_cons, List.map_nil, List.sum_cons, List.sum_nil, hrf_cat, cat_i, cat_l, cat_r]) <;> decide) ⟨(show _ ≤ 600000 by omega), (show _ ≤ 7302250 by omega)⟩ dL_law_1242 (fun v301 S300 hh => ?_)
                                                        refine rw_icmp_eq E hh (tgt := 1332) (by decide) dL_law_1245 (fun hh => ?_) (fun hh => ?_)
                                                        · refine WH.pick [0, 1, 2, 3] rfl ?_
                                                          exact w_L_law_b1332 E hrt hlk hXX hnc hns (by omega) (by omega) hj18 hh
                                                        · refine rw_iconst E (v := 0) (by decide) dL_law_1248 ?_
                                                          cases hh
                                                      · rw [if_neg c33_25] at hh
                                                        by_cases c33_26 : v2 = 26
                                                        · rw [if_pos c33_26] at hh
                                                          refine rw_swin E (v := 26) (tgt := 1250) dL_law_33 c33_26 (by decide) (by decide) rfl (by decide) ?_
                                                          refine rw_aload_n E (j0 := 1) rfl rfl dL_law_1250 ?_
                                                          refine rw_aloadr_n E (j0 := 0) rfl rfl dL_law_1251 ?_
                                                          refine rw_iload_n E (j0 := 3) rfl rfl dL_law_1252 ?_
                                                          refine rw_iconst E (v := 1) (by decide) dL_law_1253 ?_
                                                          refine rw_iadd E dL_law_1254 ?_
                                                          refine rw_sld E hh hXX dL_law_1255 (fun v303 hh => ?_)
                                                          refine rw_cVi E (As := [.int v303]) hh (by decide) rfl (fun _ _ _ hq => c_X11_ask l b0 G _ _ _ _ _ hq) (cwV 1 E.2.2.2.2.1 gL_law_X11_ask rfl rfl rfl (by decide +kernel) ⟨Nat.le_of_ble_eq_true rfl, Nat.le_of_ble_eq_true rfl⟩) rfl rfl (by (try simp only [List.map_cons, List.map_nil, List.sum_cons, List.sum_nil, hrf_cat, cat_i, cat_l, cat_r]) <;> decide) ⟨(show _ ≤ 600000 by omega), (show _ ≤ 7302250 by omega)⟩ dL_law_1256 (fun v305 S304 hh => ?_)
                                                          refine rw_aload_n E (j0 := 2) rfl rfl dL_law_1259 ?_
                                                          refine rw_aloadr_n E (j0 := 0) rfl rfl dL_law_1260 ?_
                                                          refine rw_iload_n E (j0 := 3) rfl rfl dL_law_1261 ?_
                                                          refine rw_iconst E (v := 1) (by decide) dL_law_1262 ?_
                                                          refine rw_iadd E dL_law_1263 ?_
                                                          refine rw_sld E hh hXX dL_law_1264 (fun v307 hh => ?_)
                                                          refine rw_cVi E (As := [.int v307]) hh (by decide) rfl (fun _ _ _ hq => c_X12_ask l b0 G _ _ _ _ _ hq) (cwV 1 E.2.2.2.2.1 gL_law_X12_ask rfl rfl rfl (by decide +kernel) ⟨Nat.le_of_ble_eq_true rfl, Nat.le_of_ble_eq_true rfl⟩) rfl rfl (by (try simp only [List.map_cons, List.map_nil, List.sum_cons, List.sum_nil, hrf_cat, cat_i, cat_l, cat_r]) <;> decide) ⟨(show _ ≤ 600000 by omega), (show _ ≤ 7302250 by omega)⟩ dL_law_1265 (fun v309 S308 hh => ?_)
                                                          refine rw_icmp_eq E hh (tgt := 1332) (by decide) dL_law_1268 (fun hh => ?_) (fun hh => ?_)
                                                          · refine WH.pick [0, 1, 2, 3] rfl ?_
                                                            exact w_L_law_b1332 E hrt hlk hXX hnc hns (by omega) (by omega) hj18 hh
                                                          · refine rw_iconst E (v := 0) (by decide) dL_law_1271 ?_
                                                            cases hh
                                                        · rw [if_neg c33_26] at hh
                                                          by_cases c33_27 : v2 = 27
                                                          · rw [if_pos c33_27] at hh
                                                            refine rw_swin E (v := 27) (tgt := 1273) dL_law_33 c33_27 (by decide) (by decide) rfl (by decide) ?_
                                                            refine rw_aload_n E (j0 := 1) rfl rfl dL_law_1273 ?_
                                                            refine rw_aloadr_n E (j0 := 0) rfl rfl dL_law_1274 ?_
                                                            refine rw_iload_n E (j0 := 3) rfl rfl dL_law_1275 ?_
                                                            refine rw_iconst E (v := 1) (by decide) dL_law_1276 ?_
                                                            refine rw_iadd E dL_law_1277 ?_
                                                            refine rw_sld E hh hXX dL_law_1278 (fun v311 hh => ?_)
                                                            refine rw_cVi E (As := [.int v311]) hh (by decide) rfl (fun _ _ _ hq => c_X11_trace l b0 G _ _ _ _ _ hq) (cwV 1 E.2.2.2.2.1 gL_law_X11_trace rfl rfl rfl (by decide +kernel) ⟨Nat.le_of_ble_eq_true rfl, Nat.le_of_ble_eq_true rfl⟩) rfl rfl (by (try simp only [List.map_cons, List.map_nil, List.sum_cons, List.sum_nil, hrf_cat, cat_i, cat_l, cat_r]) <;> decide) ⟨(show _ ≤ 600000 by omega), (show _ ≤ 7302250 by omega)⟩ dL_law_1279 (fun v313 S312 hh => ?_)
                                                            refine rw_aload_n E (j0 := 2) rfl rfl dL_law_1282 ?_
                                                            refine rw_aloadr_n E (j0 := 0) rfl rfl dL_law_1283 ?_
                                                            refine rw_iload_n E (j0 := 3) rfl rfl dL_law_1284 ?_
                                                            refine rw_iconst E (v := 1) (by decide) dL_law_1285 ?_
                                                            refine rw_iadd E dL_law_1286 ?_
                                                            refine rw_sld E hh hXX dL_law_1287 (fun v315 hh => ?_)
                                                            refine rw_cVi E (As := [.int v315]) hh (by decide) rfl (fun _ _ _ hq => c_X12_trace l b0 G _ _ _ _ _ hq) (cwV 1 E.2.2.2.2.1 gL_law_X12_trace rfl rfl rfl (by decide +kernel) ⟨Nat.le_of_ble_eq_true rfl, Nat.le_of_ble_eq_true rfl⟩) rfl rfl (by (try simp only [List.map_cons, List.map_nil, List.sum_cons, List.sum_nil, hrf_cat, cat_i, cat_l, cat_r]) <;> decide) ⟨(show _ ≤ 600000 by omega), (show _ ≤ 7302250 by omega)⟩ dL_law_1288 (fun v317 S316 hh => ?_)
                                                            refine rw_icmp_eq E hh (tgt := 1332) (by decide) dL_law_1291 (fun hh => ?_) (fun hh => ?_)
                                                            · refine WH.pick [0, 1, 2, 3] rfl ?_
                                                              exact w_L_law_b1332 E hrt hlk hXX hnc hns (by omega) (by omega) hj18 hh
                                                            · refine rw_iconst E (v := 0) (by decide) dL_law_1294 ?_
                                                              cases hh
                                                          · rw [if_neg c33_27] at hh
                                                            by_cases c33_28 : v2 = 28
                                                            · rw [if_pos c33_28] at hh
                                                              refine rw_swin E (v := 28) (tgt := 1296) dL_law_33 c33_28 (by decide) (by decide) rfl (by decide) ?_
                                                              refine rw_aload_n E (j0 := 1) rfl rfl dL_law_1296 ?_
                                                              refine rw_aloadr_n E (j0 := 0) rfl rfl dL_law_1297 ?_
                                                              refine rw_iload_n E (j0 := 3) rfl rfl dL_law_1298 ?_
                                                              refine rw_iconst E (v := 1) (by decide) dL_law_1299 ?_
                                                              refine rw_iadd E dL_law_1300 ?_
                                                              refine rw_sld E hh hXX dL_law_1301 (fun v319 hh => ?_)
                                                              refine rw_cVi E (As := [.int v319]) hh (by decide) rfl (fun _ _ _ hq => c_X11_count l b0 G _ _ _ _ _ hq) (cwV 1 E.2.2.2.2.1 gL_law_X11_count rfl rfl rfl (by decide +kernel) ⟨Nat.le_of_ble_eq_true rfl, Nat.le_of_ble_eq_true rfl⟩) rfl rfl (by (try simp only [List.map_cons, List.map_nil, List.sum_cons, List.sum_nil, hrf_cat, cat_i, cat_l, cat_r]) <;> decide) ⟨(show _ ≤ 600000 by omega), (show _ ≤ 7302250 by omega)⟩ dL_law_1302 (fun v321 S320 hh => ?_)
                                                              refine rw_aload_n E (j0 := 2) rfl rfl dL_law_1305 ?_
                                                              refine rw_aloadr_n E (j0 := 0) rfl rfl dL_law_1306 ?_
                                                              refine rw_iload_n E (j0 := 3) rfl rfl dL_law_1307 ?_
                                                              refine rw_iconst E (v := 1) (by decide) dL_law_1308 ?_
                                                              refine rw_iadd E dL_law_1309 ?_
                                                              refine rw_sld E hh hXX dL_law_1310 (fun v323 hh => ?_)
                                                              refine rw_cVi E (As := [.int v323]) hh (by decide) rfl (fun _ _ _ hq => c_X12_count l b0 G _ _ _ _ _ hq) (cwV 1 E.2.2.2.2.1 gL_law_X12_count rfl rfl rfl (by decide +kernel) ⟨Nat.le_of_ble_eq_true rfl, Nat.le_of_ble_eq_true rfl⟩) rfl rfl (by (try simp only [List.map_cons, List.map_nil, List.sum_cons, List.sum_nil, hrf_cat, cat_i, cat_l, cat_r]) <;> decide) ⟨(show _ ≤ 600000 by omega), (show _ ≤ 7302250 by omega)⟩ dL_law_1311 (fun v325 S324 hh => ?_)
                                                              refine rw_icmp_eq E hh (tgt := 1332) (by decide) dL_law_1314 (fun hh => ?_) (fun hh => ?_)
                                                              · refine WH.pick [0, 1, 2, 3] rfl ?_
                                                                exact w_L_law_b1332 E hrt hlk hXX hnc hns (by omega) (by omega) hj18 hh
                                                              · refine rw_iconst E (v := 0) (by decide) dL_law_1317 ?_
                                                                cases hh
                                                            · rw [if_neg c33_28] at hh
                                                              by_cases c33_29 : v2 = 29
                                                              · rw [if_pos c33_29] at hh
                                                                refine rw_swin E (v := 29) (tgt := 1319) dL_law_33 c33_29 (by decide) (by decide) rfl (by decide) ?_
                                                                refine rw_aload_n E (j0 := 1) rfl rfl dL_law_1319 ?_
                                                                refine rw_cVi E (As := []) hh (by decide) rfl (fun _ _ _ hq => c_X11_status l b0 G _ _ _ _ hq) (cwV 0 E.2.2.2.2.1 gL_law_X11_status rfl rfl rfl (by decide +kernel) ⟨Nat.le_of_ble_eq_true rfl, Nat.le_of_ble_eq_true rfl⟩) rfl rfl (by (try simp only [List.map_cons, List.map_nil, List.sum_cons, List.sum_nil, hrf_cat, cat_i, cat_l, cat_r]) <;> decide) ⟨(show _ ≤ 600000 by omega), (show _ ≤ 7302250 by omega)⟩ dL_law_1320 (fun v328 S327 hh => ?_)
                                                                refine rw_aload_n E (j0 := 2) rfl rfl dL_law_1323 ?_
                                                                refine rw_cVi E (As := []) hh (by decide) rfl (fun _ _ _ hq => c_X12_status l b0 G _ _ _ _ hq) (cwV 0 E.2.2.2.2.1 gL_law_X12_status rfl rfl rfl (by decide +kernel) ⟨Nat.le_of_ble_eq_true rfl, Nat.le_of_ble_eq_true rfl⟩) rfl rfl (by (try simp only [List.map_cons, List.map_nil, List.sum_cons, List.sum_nil, hrf_cat, cat_i, cat_l, cat_r]) <;> decide) ⟨(show _ ≤ 600000 by omega), (show _ ≤ 7302250 by omega)⟩ dL_law_1324 (fun v331 S330 hh => ?_)
                                                                refine rw_icmp_eq E hh (tgt := 1332) (by decide) dL_law_1327 (fun hh => ?_) (fun hh => ?_)
                                                                · refine WH.pick [0, 1, 2, 3] rfl ?_
                                                                  exact w_L_law_b1332 E hrt hlk hXX hnc hns (by omega) (by omega) hj18 hh
                                                                · refine rw_iconst E (v := 0) (by decide) dL_law_1330 ?_
                                                                  cases hh
                                                              · rw [if_neg c33_29] at hh
                                                                have n0 := lv_neT c33_0 (a := 0) rfl
                                                                have n1 := lv_neT c33_1 (a := 1) rfl
                                                                have n2 := lv_neT c33_2 (a := 2) rfl
                                                                have n3 := lv_neT c33_3 (a := 3) rfl
                                                                have n4 := lv_neT c33_4 (a := 4) rfl
                                                                have n5 := lv_neT c33_5 (a := 5) rfl
                                                                have n6 := lv_neT c33_6 (a := 6) rfl
                                                                have n7 := lv_neT c33_7 (a := 7) rfl
                                                                have n8 := lv_neT c33_8 (a := 8) rfl
                                                                have n9 := lv_neT c33_9 (a := 9) rfl
                                                                have n10 := lv_neT c33_10 (a := 10) rfl
                                                                have n11 := lv_neT c33_11 (a := 11) rfl
                                                                have n12 := lv_neT c33_12 (a := 12) rfl
                                                                have n13 := lv_neT c33_13 (a := 13) rfl
                                                                have n14 := lv_neT c33_14 (a := 14) rfl
                                                                have n15 := lv_neT c33_15 (a := 15) rfl
                                                                have n16 := lv_neT c33_16 (a := 16) rfl
                                                                have n17 := lv_neT c33_17 (a := 17) rfl
                                                                have n18 := lv_neT c33_18 (a := 18) rfl
                                                                have n19 := lv_neT c33_19 (a := 19) rfl
                                                                have n20 := lv_neT c33_20 (a := 20) rfl
                                                                have n21 := lv_neT c33_21 (a := 21) rfl
                                                                have n22 := lv_neT c33_22 (a := 22) rfl
                                                                have n23 := lv_neT c33_23 (a := 23) rfl
                                                                have n24 := lv_neT c33_24 (a := 24) rfl
                                                                have n25 := lv_neT c33_25 (a := 25) rfl
                                                                have n26 := lv_neT c33_26 (a := 26) rfl
                                                                have n27 := lv_neT c33_27 (a := 27) rfl
                                                                have n28 := lv_neT c33_28 (a := 28) rfl
                                                                have n29 := lv_neT c33_29 (a := 29) rfl
                                                                refine rw_swout E (tgt := 1332) dL_law_33 (by omega) (by decide) ?_
                                                                refine WH.pick [0, 1, 2, 3] rfl ?_
                                                                exact w_L_law_b1332 E hrt hlk hXX hnc hns (by omega) (by omega) hj18 hh
def s_L_law_L18 (xs : Nat → Int32) (L : Nat) : Nat → HS → Option Nat → Option Nat → Int32 → Option (HS)
  | 0 => fun _ _ _ _ => none
  | n + 1 => s_L_law_b18 (s_L_law_L18 xs L n) xs L
set_option maxHeartbeats 4000000 in
set_option maxRecDepth 100000 in
theorem w_L_law_L18 {p : Program} {l : Launch} {e : Env} {s : State} {m : MethodId} {below : List Frame} {meth : Method} {c : Code} {b0 : Nat} {G : hG} {b : Addr} {S1 : HS} {xs : Nat → Int32} {L : Nat} (E : hE p s m #[Value.ref b] c b0 G code RL 4 wsL_law) (hrt : meth.sig.returnType = ret) (hlk : meth.locks = false) (hXX : va_X b L xs s s.heap ∧ b < s.heap.size ∧ s.heap.size = b0) : ∀ (n : Nat) (S : HS) (l1 : Option Nat) (l2 : Option Nat) (l3 : Int32) (cells slots : Nat), cells + (n * 76 + 0) ≤ 600000 → slots + (n * 300 + 0) ≤ 7302250 → s_L_law_L18 xs L n S l1 l2 l3 = some S1 → WH p l e room_1 s m #[Value.ref b] below meth c b0 G 4 cells slots (lw_Z below #[Value.ref b] s) S 18 [(0, .ref b), (1, hrf b0 l1), (2, hrf b0 l2), (3, .int l3)] [] := by
  intro n
  induction n with
  | zero => intro _ _ _ _ _ _ _ _ hh; exact absurd hh (by simp [s_L_law_L18])
  | succ n ih => intro _ _ _ _ cells slots hc hs hh; exact w_L_law_b18 E hrt hlk hXX (nc := n * 76 + 0) (ns := n * 300 + 0) (by omega) (by omega) (by omega) (by omega) ih hh
def s_L_law (S : HS) (xs : Nat → Int32) (L : Nat) : Option (HS) := knew S 11 (fun o1 S2 => kO S2 o1 11 (fun a4 => kcv (s_X11_init S2 a4 ) (fun S3 => knew S3 12 (fun o5 S6 => kO S6 o5 12 (fun a8 => kcv (s_X12_init S6 a8 ) (fun S7 => s_L_law_L18 xs L 513 S7 o1 o5 0))))))
set_option maxHeartbeats 4000000 in
set_option maxRecDepth 100000 in
theorem w_L_law {p : Program} {l : Launch} {e : Env} {s : State} {m : MethodId} {below : List Frame} {meth : Method} {c : Code} {b0 : Nat} {G : hG} {b : Addr} {S S1 : HS} {xs : Nat → Int32} {L : Nat} (E : hE p s m #[Value.ref b] c b0 G code RL 4 wsL_law) (hrt : meth.sig.returnType = ret) (hlk : meth.locks = false) (hXX : va_X b L xs s s.heap ∧ b < s.heap.size ∧ s.heap.size = b0) (hh : s_L_law S xs L = some S1) : WH p l e room_1 s m #[Value.ref b] below meth c b0 G 4 0 0 (lw_Z below #[Value.ref b] s) S 0 [(0, .ref b)] [] := by
  have hc : 0 + 39038 ≤ 600000 := by decide
  have hs : 0 + 156375 ≤ 7302250 := by decide
  have hh : (knew S 11 (fun o1 S2 => kO S2 o1 11 (fun a4 => kcv (s_X11_init S2 a4 ) (fun S3 => knew S3 12 (fun o5 S6 => kO S6 o5 12 (fun a8 => kcv (s_X12_init S6 a8 ) (fun S7 => s_L_law_L18 xs L 513 S7 o1 o5 0))))))) = some S1 := hh
  refine rw_new E hh (C := RX11) (T := TX11) (N := 9) (ty0 := tyX11) rfl tyX11_ok (by decide) i_L_law_11 (List.mem_of_getElem? (i := 0) (by decide +kernel)) (List.mem_of_getElem? (i := 1) (by decide +kernel)) (List.mem_of_getElem? (i := 2) (by decide +kernel)) rfl hdv_11 (show _ ≤ 600000 by omega) (show _ ≤ 7302250 by omega) dL_law_0 (fun o1 S2 hh => ?_)
  refine rw_dup E (hrf_cat _ _) dL_law_3 ?_
  refine rw_cIv E (As := []) hh (fun _ _ hq => c_X11_init l b0 G _ _ _ hq) (cwI 0 E.2.2.2.2.1 gL_law_X11_init rfl rfl rfl (E.2.2.2.2.1 _ (List.mem_of_getElem? (i := 2) (by decide +kernel))) (E.2.2.2.2.1 _ (List.mem_of_getElem? (i := 7) (by decide +kernel))) (E.2.2.2.2.1 _ (List.mem_of_getElem? (i := 8) (by decide +kernel))) rfl (by decide +kernel) ⟨Nat.le_of_ble_eq_true rfl, Nat.le_of_ble_eq_true rfl⟩) rfl rfl (by (try simp only [List.map_cons, List.map_nil, List.sum_cons, List.sum_nil, hrf_cat, cat_i, cat_l, cat_r]) <;> decide) ⟨(show _ ≤ 600000 by omega), (show _ ≤ 7302250 by omega)⟩ dL_law_4 (fun S3 hh => ?_)
  refine rw_astore_n E (lv2 := [(1, hrf b0 o1), (0, .ref b)]) rfl (by decide) rfl dL_law_7 ?_
  refine rw_new E hh (C := RX12) (T := TX12) (N := 32) (ty0 := tyX12) rfl tyX12_ok (by decide) i_L_law_12 (List.mem_of_getElem? (i := 3) (by decide +kernel)) (List.mem_of_getElem? (i := 4) (by decide +kernel)) (List.mem_of_getElem? (i := 5) (by decide +kernel)) rfl hdv_12 (show _ ≤ 600000 by omega) (show _ ≤ 7302250 by omega) dL_law_8 (fun o5 S6 hh => ?_)
  refine rw_dup E (hrf_cat _ _) dL_law_11 ?_
  refine rw_cIv E (As := []) hh (fun _ _ hq => c_X12_init l b0 G _ _ _ hq) (cwI 0 E.2.2.2.2.1 gL_law_X12_init rfl rfl rfl (E.2.2.2.2.1 _ (List.mem_of_getElem? (i := 5) (by decide +kernel))) (E.2.2.2.2.1 _ (List.mem_of_getElem? (i := 67) (by decide +kernel))) (E.2.2.2.2.1 _ (List.mem_of_getElem? (i := 68) (by decide +kernel))) rfl (by decide +kernel) ⟨Nat.le_of_ble_eq_true rfl, Nat.le_of_ble_eq_true rfl⟩) rfl rfl (by (try simp only [List.map_cons, List.map_nil, List.sum_cons, List.sum_nil, hrf_cat, cat_i, cat_l, cat_r]) <;> decide) ⟨(show _ ≤ 600000 by omega), (show _ ≤ 7302250 by omega)⟩ dL_law_12 (fun S7 hh => ?_)
  refine rw_astore_n E (i := 2) (lv2 := [(2, hrf b0 o5), (1, hrf b0 o1), (0, .ref b)]) rfl (by decide) (by simp [lvs, lvs2, hrf_cat]) dL_law_15 ?_
  refine rw_iconst E (v := 0) (by decide) dL_law_16 ?_
  refine rw_istore_n E (i := 3) (lv2 := [(3, .int 0), (2, hrf b0 o5), (1, hrf b0 o1), (0, .ref b)]) rfl (by decide) (by simp [lvs, lvs2, hrf_cat]) dL_law_17 ?_
  refine WH.pick [3, 2, 1, 0] rfl ?_
  exact w_L_law_L18 E hrt hlk hXX 513 _ _ _ _ _ _ (by omega) (by omega) hh
