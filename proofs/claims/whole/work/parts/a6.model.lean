theorem ff_X12_7 : FFk RX12 7 11 0 "[I" := ⟨_, rfl, by decide, rfl, rfl, rfl, gW_in _ (tb_7 _ (List.mem_of_getElem? (i := 68) rfl)) rfl⟩
theorem ff_X12_13 : FFk RX12 13 11 1 "[I" := ⟨_, rfl, by decide, rfl, rfl, rfl, gW_in _ (tb_7 _ (List.mem_of_getElem? (i := 69) rfl)) rfl⟩
theorem ff_X12_16 : FFk RX12 16 11 2 "[I" := ⟨_, rfl, by decide, rfl, rfl, rfl, gW_in _ (tb_7 _ (List.mem_of_getElem? (i := 70) rfl)) rfl⟩
theorem ff_X12_19 : FFk RX12 19 11 3 "[I" := ⟨_, rfl, by decide, rfl, rfl, rfl, gW_in _ (tb_7 _ (List.mem_of_getElem? (i := 71) rfl)) rfl⟩
theorem ff_X12_22 : FFk RX12 22 11 4 "[I" := ⟨_, rfl, by decide, rfl, rfl, rfl, gW_in _ (tb_7 _ (List.mem_of_getElem? (i := 72) rfl)) rfl⟩
theorem ff_X12_25 : FFk RX12 25 11 6 "[I" := ⟨_, rfl, by decide, rfl, rfl, rfl, gW_in _ (tb_7 _ (List.mem_of_getElem? (i := 74) rfl)) rfl⟩
theorem ff_X12_28 : FFk RX12 28 11 8 "[I" := ⟨_, rfl, by decide, rfl, rfl, rfl, gW_in _ (tb_7 _ (List.mem_of_getElem? (i := 76) rfl)) rfl⟩
theorem ff_X12_35 : FFk RX12 35 11 18 "[I" := ⟨_, rfl, by decide, rfl, rfl, rfl, gW_in _ (tb_7 _ (List.mem_of_getElem? (i := 86) rfl)) rfl⟩
theorem ff_X12_38 : FFk RX12 38 11 19 "[I" := ⟨_, rfl, by decide, rfl, rfl, rfl, gW_in _ (tb_7 _ (List.mem_of_getElem? (i := 87) rfl)) rfl⟩
theorem ff_X12_41 : FFk RX12 41 11 20 "[I" := ⟨_, rfl, by decide, rfl, rfl, rfl, gW_in _ (tb_7 _ (List.mem_of_getElem? (i := 88) rfl)) rfl⟩
theorem ff_X12_44 : FFk RX12 44 11 22 "[I" := ⟨_, rfl, by decide, rfl, rfl, rfl, gW_in _ (tb_7 _ (List.mem_of_getElem? (i := 90) rfl)) rfl⟩
theorem ff_X12_47 : FFk RX12 47 11 23 "[I" := ⟨_, rfl, by decide, rfl, rfl, rfl, gW_in _ (tb_7 _ (List.mem_of_getElem? (i := 91) rfl)) rfl⟩
theorem ff_X12_50 : FFk RX12 50 11 24 "[I" := ⟨_, rfl, by decide, rfl, rfl, rfl, gW_in _ (tb_7 _ (List.mem_of_getElem? (i := 92) rfl)) rfl⟩
theorem ff_X12_53 : FFk RX12 53 11 29 "[I" := ⟨_, rfl, by decide, rfl, rfl, rfl, gW_in _ (tb_7 _ (List.mem_of_getElem? (i := 97) rfl)) rfl⟩
theorem ff_X12_56 : FFk RX12 56 11 30 "[I" := ⟨_, rfl, by decide, rfl, rfl, rfl, gW_in _ (tb_7 _ (List.mem_of_getElem? (i := 98) rfl)) rfl⟩
theorem ff_X12_59 : FFk RX12 59 11 31 "[I" := ⟨_, rfl, by decide, rfl, rfl, rfl, gW_in _ (tb_7 _ (List.mem_of_getElem? (i := 99) rfl)) rfl⟩
theorem ff_X12_62 : FFk RX12 62 11 32 "[I" := ⟨_, rfl, by decide, rfl, rfl, rfl, gW_in _ (tb_7 _ (List.mem_of_getElem? (i := 100) rfl)) rfl⟩
theorem ff_X12_65 : FFk RX12 65 11 33 "[I" := ⟨_, rfl, by decide, rfl, rfl, rfl, gW_in _ (tb_7 _ (List.mem_of_getElem? (i := 101) rfl)) rfl⟩
theorem ff_X12_68 : FFk RX12 68 11 36 "[I" := ⟨_, rfl, by decide, rfl, rfl, rfl, gW_in _ (tb_7 _ (List.mem_of_getElem? (i := 104) rfl)) rfl⟩
theorem ff_X12_71 : FFk RX12 71 11 37 "[I" := ⟨_, rfl, by decide, rfl, rfl, rfl, gW_in _ (tb_7 _ (List.mem_of_getElem? (i := 105) rfl)) rfl⟩
theorem ff_X12_74 : FFk RX12 74 11 38 "[I" := ⟨_, rfl, by decide, rfl, rfl, rfl, gW_in _ (tb_7 _ (List.mem_of_getElem? (i := 106) rfl)) rfl⟩
theorem ff_X12_77 : FFk RX12 77 11 51 "[I" := ⟨_, rfl, by decide, rfl, rfl, rfl, gW_in _ (tb_7 _ (List.mem_of_getElem? (i := 119) rfl)) rfl⟩
theorem kc_X12_80 : Cond.constant RX12 80 (40000 : Int32) ∈ gW := gW_in _ (tb_7 _ (List.mem_of_getElem? (i := 67) rfl)) rfl
theorem ff_X12_81 : FFk RX12 81 11 52 "[I" := ⟨_, rfl, by decide, rfl, rfl, rfl, gW_in _ (tb_7 _ (List.mem_of_getElem? (i := 120) rfl)) rfl⟩
theorem ff_X12_84 : FFk RX12 84 11 55 "[I" := ⟨_, rfl, by decide, rfl, rfl, rfl, gW_in _ (tb_7 _ (List.mem_of_getElem? (i := 123) rfl)) rfl⟩
theorem ff_X12_87 : FFk RX12 87 11 56 "[I" := ⟨_, rfl, by decide, rfl, rfl, rfl, gW_in _ (tb_7 _ (List.mem_of_getElem? (i := 124) rfl)) rfl⟩
theorem ff_X12_90 : FFk RX12 90 11 57 "[I" := ⟨_, rfl, by decide, rfl, rfl, rfl, gW_in _ (tb_7 _ (List.mem_of_getElem? (i := 125) rfl)) rfl⟩
theorem ff_X12_93 : FFk RX12 93 11 58 "[I" := ⟨_, rfl, by decide, rfl, rfl, rfl, gW_in _ (tb_7 _ (List.mem_of_getElem? (i := 126) rfl)) rfl⟩
theorem ff_X12_96 : FFk RX12 96 11 59 "[Z" := ⟨_, rfl, by decide, rfl, rfl, rfl, gW_in _ (tb_7 _ (List.mem_of_getElem? (i := 127) rfl)) rfl⟩
theorem ff_X12_100 : FFk RX12 100 11 60 "[Z" := ⟨_, rfl, by decide, rfl, rfl, rfl, gW_in _ (tb_7 _ (List.mem_of_getElem? (i := 128) rfl)) rfl⟩
theorem ff_X12_103 : FFk RX12 103 11 61 "[I" := ⟨_, rfl, by decide, rfl, rfl, rfl, gW_in _ (tb_7 _ (List.mem_of_getElem? (i := 129) rfl)) rfl⟩
theorem ff_X12_106 : FFk RX12 106 11 62 "[I" := ⟨_, rfl, by decide, rfl, rfl, rfl, gW_in _ (tb_7 _ (List.mem_of_getElem? (i := 130) rfl)) rfl⟩
theorem ff_X12_109 : FFk RX12 109 11 63 "[I" := ⟨_, rfl, by decide, rfl, rfl, rfl, gW_in _ (tb_7 _ (List.mem_of_getElem? (i := 131) rfl)) rfl⟩
theorem lo_X12 : Cond.methodLink RX12 1 Lib.objectInit ∈ gW := gW_in _ (tb_7 _ (List.mem_of_getElem? (i := 66) rfl)) rfl
theorem dX12_init_0 : decode cX12_init 0 = .ok (.aload_n 0, 1) := by decide +kernel
theorem dX12_init_1 : decode cX12_init 1 = .ok (.invokespecial 1, 3) := by decide +kernel
theorem dX12_init_4 : decode cX12_init 4 = .ok (.aload_n 0, 1) := by decide +kernel
theorem dX12_init_5 : decode cX12_init 5 = .ok (.bipush 29, 2) := by decide +kernel
theorem dX12_init_7 : decode cX12_init 7 = .ok (.newarray .int, 2) := by decide +kernel
theorem dX12_init_168 : decode cX12_init 168 = .ok (.putfield 7, 3) := by decide +kernel
theorem dX12_init_171 : decode cX12_init 171 = .ok (.aload_n 0, 1) := by decide +kernel
theorem dX12_init_172 : decode cX12_init 172 = .ok (.bipush 65, 2) := by decide +kernel
theorem dX12_init_174 : decode cX12_init 174 = .ok (.newarray .int, 2) := by decide +kernel
theorem dX12_init_536 : decode cX12_init 536 = .ok (.putfield 13, 3) := by decide +kernel
theorem dX12_init_539 : decode cX12_init 539 = .ok (.aload_n 0, 1) := by decide +kernel
theorem dX12_init_540 : decode cX12_init 540 = .ok (.sipush 146, 3) := by decide +kernel
theorem dX12_init_543 : decode cX12_init 543 = .ok (.newarray .int, 2) := by decide +kernel
theorem dX12_init_1411 : decode cX12_init 1411 = .ok (.putfield 16, 3) := by decide +kernel
theorem dX12_init_1414 : decode cX12_init 1414 = .ok (.aload_n 0, 1) := by decide +kernel
theorem dX12_init_1415 : decode cX12_init 1415 = .ok (.bipush 22, 2) := by decide +kernel
theorem dX12_init_1417 : decode cX12_init 1417 = .ok (.newarray .int, 2) := by decide +kernel
theorem dX12_init_1541 : decode cX12_init 1541 = .ok (.putfield 19, 3) := by decide +kernel
theorem dX12_init_1544 : decode cX12_init 1544 = .ok (.aload_n 0, 1) := by decide +kernel
theorem dX12_init_1545 : decode cX12_init 1545 = .ok (.bipush 89, 2) := by decide +kernel
theorem dX12_init_1547 : decode cX12_init 1547 = .ok (.newarray .int, 2) := by decide +kernel
theorem dX12_init_2060 : decode cX12_init 2060 = .ok (.putfield 22, 3) := by decide +kernel
theorem dX12_init_2063 : decode cX12_init 2063 = .ok (.aload_n 0, 1) := by decide +kernel
theorem dX12_init_2064 : decode cX12_init 2064 = .ok (.sipush 4000, 3) := by decide +kernel
theorem dX12_init_2067 : decode cX12_init 2067 = .ok (.newarray .int, 2) := by decide +kernel
theorem dX12_init_2069 : decode cX12_init 2069 = .ok (.putfield 25, 3) := by decide +kernel
theorem dX12_init_2072 : decode cX12_init 2072 = .ok (.aload_n 0, 1) := by decide +kernel
theorem dX12_init_2073 : decode cX12_init 2073 = .ok (.sipush 4000, 3) := by decide +kernel
theorem dX12_init_2076 : decode cX12_init 2076 = .ok (.newarray .int, 2) := by decide +kernel
theorem dX12_init_2078 : decode cX12_init 2078 = .ok (.putfield 28, 3) := by decide +kernel
theorem dX12_init_2081 : decode cX12_init 2081 = .ok (.aload_n 0, 1) := by decide +kernel
theorem dX12_init_2082 : decode cX12_init 2082 = .ok (.iconst (-1), 1) := by decide +kernel
theorem dX12_init_2083 : decode cX12_init 2083 = .ok (.putfield 31, 3) := by decide +kernel
theorem dX12_init_2086 : decode cX12_init 2086 = .ok (.aload_n 0, 1) := by decide +kernel
theorem dX12_init_2087 : decode cX12_init 2087 = .ok (.bipush 20, 2) := by decide +kernel
theorem dX12_init_2089 : decode cX12_init 2089 = .ok (.newarray .int, 2) := by decide +kernel
theorem dX12_init_2091 : decode cX12_init 2091 = .ok (.putfield 35, 3) := by decide +kernel
theorem dX12_init_2094 : decode cX12_init 2094 = .ok (.aload_n 0, 1) := by decide +kernel
theorem dX12_init_2095 : decode cX12_init 2095 = .ok (.sipush 160, 3) := by decide +kernel
theorem dX12_init_2098 : decode cX12_init 2098 = .ok (.newarray .int, 2) := by decide +kernel
theorem dX12_init_2100 : decode cX12_init 2100 = .ok (.putfield 38, 3) := by decide +kernel
theorem dX12_init_2103 : decode cX12_init 2103 = .ok (.aload_n 0, 1) := by decide +kernel
theorem dX12_init_2104 : decode cX12_init 2104 = .ok (.bipush 60, 2) := by decide +kernel
theorem dX12_init_2106 : decode cX12_init 2106 = .ok (.newarray .int, 2) := by decide +kernel
theorem dX12_init_2108 : decode cX12_init 2108 = .ok (.putfield 41, 3) := by decide +kernel
theorem dX12_init_2111 : decode cX12_init 2111 = .ok (.aload_n 0, 1) := by decide +kernel
theorem dX12_init_2112 : decode cX12_init 2112 = .ok (.sipush 160, 3) := by decide +kernel
theorem dX12_init_2115 : decode cX12_init 2115 = .ok (.newarray .int, 2) := by decide +kernel
theorem dX12_init_2117 : decode cX12_init 2117 = .ok (.putfield 44, 3) := by decide +kernel
theorem dX12_init_2120 : decode cX12_init 2120 = .ok (.aload_n 0, 1) := by decide +kernel
theorem dX12_init_2121 : decode cX12_init 2121 = .ok (.bipush 60, 2) := by decide +kernel
theorem dX12_init_2123 : decode cX12_init 2123 = .ok (.newarray .int, 2) := by decide +kernel
theorem dX12_init_2125 : decode cX12_init 2125 = .ok (.putfield 47, 3) := by decide +kernel
theorem dX12_init_2128 : decode cX12_init 2128 = .ok (.aload_n 0, 1) := by decide +kernel
theorem dX12_init_2129 : decode cX12_init 2129 = .ok (.sipush 1300, 3) := by decide +kernel
theorem dX12_init_2132 : decode cX12_init 2132 = .ok (.newarray .int, 2) := by decide +kernel
theorem dX12_init_2134 : decode cX12_init 2134 = .ok (.putfield 50, 3) := by decide +kernel
theorem dX12_init_2137 : decode cX12_init 2137 = .ok (.aload_n 0, 1) := by decide +kernel
theorem dX12_init_2138 : decode cX12_init 2138 = .ok (.bipush 100, 2) := by decide +kernel
theorem dX12_init_2140 : decode cX12_init 2140 = .ok (.newarray .int, 2) := by decide +kernel
theorem dX12_init_2142 : decode cX12_init 2142 = .ok (.putfield 53, 3) := by decide +kernel
theorem dX12_init_2145 : decode cX12_init 2145 = .ok (.aload_n 0, 1) := by decide +kernel
theorem dX12_init_2146 : decode cX12_init 2146 = .ok (.bipush 100, 2) := by decide +kernel
theorem dX12_init_2148 : decode cX12_init 2148 = .ok (.newarray .int, 2) := by decide +kernel
theorem dX12_init_2150 : decode cX12_init 2150 = .ok (.putfield 56, 3) := by decide +kernel
theorem dX12_init_2153 : decode cX12_init 2153 = .ok (.aload_n 0, 1) := by decide +kernel
theorem dX12_init_2154 : decode cX12_init 2154 = .ok (.bipush 100, 2) := by decide +kernel
theorem dX12_init_2156 : decode cX12_init 2156 = .ok (.newarray .int, 2) := by decide +kernel
theorem dX12_init_2158 : decode cX12_init 2158 = .ok (.putfield 59, 3) := by decide +kernel
theorem dX12_init_2161 : decode cX12_init 2161 = .ok (.aload_n 0, 1) := by decide +kernel
theorem dX12_init_2162 : decode cX12_init 2162 = .ok (.bipush 6, 2) := by decide +kernel
theorem dX12_init_2164 : decode cX12_init 2164 = .ok (.newarray .int, 2) := by decide +kernel
theorem dX12_init_2166 : decode cX12_init 2166 = .ok (.putfield 62, 3) := by decide +kernel
theorem dX12_init_2169 : decode cX12_init 2169 = .ok (.aload_n 0, 1) := by decide +kernel
theorem dX12_init_2170 : decode cX12_init 2170 = .ok (.bipush 6, 2) := by decide +kernel
theorem dX12_init_2172 : decode cX12_init 2172 = .ok (.newarray .int, 2) := by decide +kernel
theorem dX12_init_2174 : decode cX12_init 2174 = .ok (.putfield 65, 3) := by decide +kernel
theorem dX12_init_2177 : decode cX12_init 2177 = .ok (.aload_n 0, 1) := by decide +kernel
theorem dX12_init_2178 : decode cX12_init 2178 = .ok (.iconst 3, 1) := by decide +kernel
theorem dX12_init_2179 : decode cX12_init 2179 = .ok (.newarray .int, 2) := by decide +kernel
theorem dX12_init_2181 : decode cX12_init 2181 = .ok (.putfield 68, 3) := by decide +kernel
theorem dX12_init_2184 : decode cX12_init 2184 = .ok (.aload_n 0, 1) := by decide +kernel
theorem dX12_init_2185 : decode cX12_init 2185 = .ok (.iconst 3, 1) := by decide +kernel
theorem dX12_init_2186 : decode cX12_init 2186 = .ok (.newarray .int, 2) := by decide +kernel
theorem dX12_init_2188 : decode cX12_init 2188 = .ok (.putfield 71, 3) := by decide +kernel
theorem dX12_init_2191 : decode cX12_init 2191 = .ok (.aload_n 0, 1) := by decide +kernel
theorem dX12_init_2192 : decode cX12_init 2192 = .ok (.iconst 3, 1) := by decide +kernel
theorem dX12_init_2193 : decode cX12_init 2193 = .ok (.newarray .int, 2) := by decide +kernel
theorem dX12_init_2195 : decode cX12_init 2195 = .ok (.putfield 74, 3) := by decide +kernel
theorem dX12_init_2198 : decode cX12_init 2198 = .ok (.aload_n 0, 1) := by decide +kernel
theorem dX12_init_2199 : decode cX12_init 2199 = .ok (.sipush 500, 3) := by decide +kernel
theorem dX12_init_2202 : decode cX12_init 2202 = .ok (.newarray .int, 2) := by decide +kernel
theorem dX12_init_2204 : decode cX12_init 2204 = .ok (.putfield 77, 3) := by decide +kernel
theorem dX12_init_2207 : decode cX12_init 2207 = .ok (.aload_n 0, 1) := by decide +kernel
theorem dX12_init_2208 : decode cX12_init 2208 = .ok (.ldc 80, 2) := by decide +kernel
theorem dX12_init_2210 : decode cX12_init 2210 = .ok (.newarray .int, 2) := by decide +kernel
theorem dX12_init_2212 : decode cX12_init 2212 = .ok (.putfield 81, 3) := by decide +kernel
theorem dX12_init_2215 : decode cX12_init 2215 = .ok (.aload_n 0, 1) := by decide +kernel
theorem dX12_init_2216 : decode cX12_init 2216 = .ok (.sipush 240, 3) := by decide +kernel
theorem dX12_init_2219 : decode cX12_init 2219 = .ok (.newarray .int, 2) := by decide +kernel
theorem dX12_init_2221 : decode cX12_init 2221 = .ok (.putfield 84, 3) := by decide +kernel
theorem dX12_init_2224 : decode cX12_init 2224 = .ok (.aload_n 0, 1) := by decide +kernel
theorem dX12_init_2225 : decode cX12_init 2225 = .ok (.sipush 240, 3) := by decide +kernel
theorem dX12_init_2228 : decode cX12_init 2228 = .ok (.newarray .int, 2) := by decide +kernel
theorem dX12_init_2230 : decode cX12_init 2230 = .ok (.putfield 87, 3) := by decide +kernel
theorem dX12_init_2233 : decode cX12_init 2233 = .ok (.aload_n 0, 1) := by decide +kernel
theorem dX12_init_2234 : decode cX12_init 2234 = .ok (.bipush 30, 2) := by decide +kernel
theorem dX12_init_2236 : decode cX12_init 2236 = .ok (.newarray .int, 2) := by decide +kernel
theorem dX12_init_2238 : decode cX12_init 2238 = .ok (.putfield 90, 3) := by decide +kernel
theorem dX12_init_2241 : decode cX12_init 2241 = .ok (.aload_n 0, 1) := by decide +kernel
theorem dX12_init_2242 : decode cX12_init 2242 = .ok (.bipush 30, 2) := by decide +kernel
theorem dX12_init_2244 : decode cX12_init 2244 = .ok (.newarray .int, 2) := by decide +kernel
theorem dX12_init_2246 : decode cX12_init 2246 = .ok (.putfield 93, 3) := by decide +kernel
theorem dX12_init_2249 : decode cX12_init 2249 = .ok (.aload_n 0, 1) := by decide +kernel
theorem dX12_init_2250 : decode cX12_init 2250 = .ok (.bipush 30, 2) := by decide +kernel
theorem dX12_init_2252 : decode cX12_init 2252 = .ok (.newarray .boolean, 2) := by decide +kernel
theorem dX12_init_2254 : decode cX12_init 2254 = .ok (.putfield 96, 3) := by decide +kernel
theorem dX12_init_2257 : decode cX12_init 2257 = .ok (.aload_n 0, 1) := by decide +kernel
theorem dX12_init_2258 : decode cX12_init 2258 = .ok (.bipush 30, 2) := by decide +kernel
theorem dX12_init_2260 : decode cX12_init 2260 = .ok (.newarray .boolean, 2) := by decide +kernel
theorem dX12_init_2262 : decode cX12_init 2262 = .ok (.putfield 100, 3) := by decide +kernel
theorem dX12_init_2265 : decode cX12_init 2265 = .ok (.aload_n 0, 1) := by decide +kernel
theorem dX12_init_2266 : decode cX12_init 2266 = .ok (.bipush 16, 2) := by decide +kernel
theorem dX12_init_2268 : decode cX12_init 2268 = .ok (.newarray .int, 2) := by decide +kernel
theorem dX12_init_2356 : decode cX12_init 2356 = .ok (.putfield 103, 3) := by decide +kernel
theorem dX12_init_2359 : decode cX12_init 2359 = .ok (.aload_n 0, 1) := by decide +kernel
theorem dX12_init_2360 : decode cX12_init 2360 = .ok (.bipush 20, 2) := by decide +kernel
theorem dX12_init_2362 : decode cX12_init 2362 = .ok (.newarray .int, 2) := by decide +kernel
theorem dX12_init_2364 : decode cX12_init 2364 = .ok (.putfield 106, 3) := by decide +kernel
theorem dX12_init_2367 : decode cX12_init 2367 = .ok (.aload_n 0, 1) := by decide +kernel
theorem dX12_init_2368 : decode cX12_init 2368 = .ok (.bipush 12, 2) := by decide +kernel
theorem dX12_init_2370 : decode cX12_init 2370 = .ok (.newarray .int, 2) := by decide +kernel
theorem dX12_init_2372 : decode cX12_init 2372 = .ok (.putfield 109, 3) := by decide +kernel
theorem dX12_init_2375 : decode cX12_init 2375 = .ok (.return_, 1) := by decide +kernel
def EM0 (cA : Nat → ClassId) (bs k p : Nat) (E : Nat → va_E) : Nat → va_E := E
def fsM0 (bs k : Nat) : List Value := dfl 11
theorem fsM0_len {bs k : Nat} : (fsM0 bs k).length = 64 := rfl
theorem EM0_p {cA : Nat → ClassId} {bs k p : Nat} {E : Nat → va_E} (he : E p = .inr (11, dfl 11)) : EM0 cA bs k p E p = .inr (11, fsM0 bs k) := he
def EM1 (cA : Nat → ClassId) (bs k p : Nat) (E : Nat → va_E) : Nat → va_E := (upE (upE (upE (upE (upE (upE (upE (upE (upE (upE (upE (upE (EM0 cA bs k p E) (k + 0) (.inl (cA 0, 29, .inl (fun _ => 0)))) (k + 0) (.inl (cA 0, 29, .inl (filled (fun _ => 0) 0 tv_7)))) p (.inr (11, ((fsM0 bs k).set 0 (Value.ref (bs + (k + 0))))))) (k + 1) (.inl (cA 0, 65, .inl (fun _ => 0)))) (k + 1) (.inl (cA 0, 65, .inl (filled (fun _ => 0) 0 tv_174)))) p (.inr (11, (((fsM0 bs k).set 0 (Value.ref (bs + (k + 0)))).set 1 (Value.ref (bs + (k + 1))))))) (k + 2) (.inl (cA 0, 146, .inl (fun _ => 0)))) (k + 2) (.inl (cA 0, 146, .inl (filled (fun _ => 0) 0 tv_543)))) p (.inr (11, ((((fsM0 bs k).set 0 (Value.ref (bs + (k + 0)))).set 1 (Value.ref (bs + (k + 1)))).set 2 (Value.ref (bs + (k + 2))))))) (k + 3) (.inl (cA 0, 22, .inl (fun _ => 0)))) (k + 3) (.inl (cA 0, 22, .inl (filled (fun _ => 0) 0 tv_1417)))) p (.inr (11, (((((fsM0 bs k).set 0 (Value.ref (bs + (k + 0)))).set 1 (Value.ref (bs + (k + 1)))).set 2 (Value.ref (bs + (k + 2)))).set 3 (Value.ref (bs + (k + 3)))))))
def fsM1 (bs k : Nat) : List Value := (((((fsM0 bs k).set 0 (Value.ref (bs + (k + 0)))).set 1 (Value.ref (bs + (k + 1)))).set 2 (Value.ref (bs + (k + 2)))).set 3 (Value.ref (bs + (k + 3))))
theorem fsM1_len {bs k : Nat} : (fsM1 bs k).length = 64 := by simp only [fsM1, List.length_set, fsM0_len]
theorem EM1_p {cA : Nat → ClassId} {bs k p : Nat} {E : Nat → va_E} (he : E p = .inr (11, dfl 11)) : EM1 cA bs k p E p = .inr (11, fsM1 bs k) := upE_at
theorem EM1_ne {cA : Nat → ClassId} {bs k p : Nat} {E : Nat → va_E} {j : Nat} (h : j ≠ p) (hj : j < k) : EM1 cA bs k p E j = EM0 cA bs k p E j := by
  unfold EM1
  repeat rw [upE_ne (by omega)]
set_option maxRecDepth 100000 in
set_option maxHeartbeats 4000000 in
theorem ckM1 {G : Gm} {f : State → Prop} (C0 : Cx G RX12 cX12_init none) (erm : G.rm = ({ frames := 1, cells := 32, slots := 51580, locals := 20 } : Room)) (hnm : G.meth.name = "<init>") {k p : Nat} {E : Nat → va_E} (hz : G.s.heap.size = G.bs + k) (hp : p < k) (he : E p = .inr (11, dfl 11)) (kk : VK G f (k + 4) 4 262 1544 [(0, .ref (G.bs + p))] [] (EM1 G.cA G.bs k p E)) : VK G f (k + 0) 0 0 4 [(0, .ref (G.bs + p))] [] (EM0 G.cA G.bs k p E) := by
  refine VK_aload_n C0 0 rfl rfl dX12_init_4 ?_
  refine VK_bipush C0 (v := (29 : Int32)) (by decide) dX12_init_5 ?_
  refine VK_newI C0 29 (by decide) (by decide +kernel) (by decide) (by rw [erm]; decide) (by rw [erm]; decide) dX12_init_7 ?_
  refine VK_fill C0 (by omega) (p := (k + 0)) (p' := 168) (by omega) (by decide) tv_7 0 9 (fun _ => 0) _ upE_at (by decide) tktv_7 ?_
  refine VK_putF C0 (by omega) hnm 11 0 p ff_X12_7 (by omega) ((upE_ne (by omega)).trans ((upE_ne (by omega)).trans (EM0_p he))) (by simp only [List.length_set, fsM0_len]; decide) (ty := (.array .int)) (by decide +kernel) rfl rfl dX12_init_168 ?_
  refine VK_aload_n C0 0 rfl rfl dX12_init_171 ?_
  refine VK_bipush C0 (v := (65 : Int32)) (by decide) dX12_init_172 ?_
  refine VK_newI C0 65 (by decide) (by decide +kernel) (by decide) (by rw [erm]; decide) (by rw [erm]; decide) dX12_init_174 ?_
  refine VK_fill C0 (by omega) (p := (k + 1)) (p' := 536) (by omega) (by decide) tv_174 0 176 (fun _ => 0) _ upE_at (by decide) tktv_174 ?_
  refine VK_putF C0 (by omega) hnm 11 1 p ff_X12_13 (by omega) ((upE_ne (by omega)).trans ((upE_ne (by omega)).trans upE_at)) (by simp only [List.length_set, fsM0_len]; decide) (ty := (.array .int)) (by decide +kernel) rfl rfl dX12_init_536 ?_
  refine VK_aload_n C0 0 rfl rfl dX12_init_539 ?_
  refine VK_sipush C0 (v := (146 : Int32)) (by decide) dX12_init_540 ?_
  refine VK_newI C0 146 (by decide) (by decide +kernel) (by decide) (by rw [erm]; decide) (by rw [erm]; decide) dX12_init_543 ?_
  refine VK_fill C0 (by omega) (p := (k + 2)) (p' := 1411) (by omega) (by decide) tv_543 0 545 (fun _ => 0) _ upE_at (by decide) tktv_543 ?_
  refine VK_putF C0 (by omega) hnm 11 2 p ff_X12_16 (by omega) ((upE_ne (by omega)).trans ((upE_ne (by omega)).trans upE_at)) (by simp only [List.length_set, fsM0_len]; decide) (ty := (.array .int)) (by decide +kernel) rfl rfl dX12_init_1411 ?_
  refine VK_aload_n C0 0 rfl rfl dX12_init_1414 ?_
  refine VK_bipush C0 (v := (22 : Int32)) (by decide) dX12_init_1415 ?_
  refine VK_newI C0 22 (by decide) (by decide +kernel) (by decide) (by rw [erm]; decide) (by rw [erm]; decide) dX12_init_1417 ?_
  refine VK_fill C0 (by omega) (p := (k + 3)) (p' := 1541) (by omega) (by decide) tv_1417 0 1419 (fun _ => 0) _ upE_at (by decide) tktv_1417 ?_
  refine VK_putF C0 (by omega) hnm 11 3 p ff_X12_19 (by omega) ((upE_ne (by omega)).trans ((upE_ne (by omega)).trans upE_at)) (by simp only [List.length_set, fsM0_len]; decide) (ty := (.array .int)) (by decide +kernel) rfl rfl dX12_init_1541 ?_
  exact kk
def EM2 (cA : Nat → ClassId) (bs k p : Nat) (E : Nat → va_E) : Nat → va_E := (upE (upE (upE (upE (upE (upE (upE (upE (EM1 cA bs k p E) (k + 4) (.inl (cA 0, 89, .inl (fun _ => 0)))) (k + 4) (.inl (cA 0, 89, .inl (filled (fun _ => 0) 0 tv_1547)))) p (.inr (11, ((fsM1 bs k).set 4 (Value.ref (bs + (k + 4))))))) (k + 5) (.inl (cA 0, 4000, .inl (fun _ => 0)))) p (.inr (11, (((fsM1 bs k).set 4 (Value.ref (bs + (k + 4)))).set 6 (Value.ref (bs + (k + 5))))))) (k + 6) (.inl (cA 0, 4000, .inl (fun _ => 0)))) p (.inr (11, ((((fsM1 bs k).set 4 (Value.ref (bs + (k + 4)))).set 6 (Value.ref (bs + (k + 5)))).set 8 (Value.ref (bs + (k + 6))))))) p (.inr (11, (((((fsM1 bs k).set 4 (Value.ref (bs + (k + 4)))).set 6 (Value.ref (bs + (k + 5)))).set 8 (Value.ref (bs + (k + 6)))).set 16 (Value.int (-1))))))
def fsM2 (bs k : Nat) : List Value := (((((fsM1 bs k).set 4 (Value.ref (bs + (k + 4)))).set 6 (Value.ref (bs + (k + 5)))).set 8 (Value.ref (bs + (k + 6)))).set 16 (Value.int (-1)))
theorem fsM2_len {bs k : Nat} : (fsM2 bs k).length = 64 := by simp only [fsM2, List.length_set, fsM1_len]
theorem EM2_p {cA : Nat → ClassId} {bs k p : Nat} {E : Nat → va_E} (he : E p = .inr (11, dfl 11)) : EM2 cA bs k p E p = .inr (11, fsM2 bs k) := upE_at
theorem EM2_ne {cA : Nat → ClassId} {bs k p : Nat} {E : Nat → va_E} {j : Nat} (h : j ≠ p) (hj : j < k) : EM2 cA bs k p E j = EM1 cA bs k p E j := by
  unfold EM2
  repeat rw [upE_ne (by omega)]
set_option maxRecDepth 100000 in
set_option maxHeartbeats 4000000 in
theorem ckM2 {G : Gm} {f : State → Prop} (C0 : Cx G RX12 cX12_init none) (erm : G.rm = ({ frames := 1, cells := 32, slots := 51580, locals := 20 } : Room)) (hnm : G.meth.name = "<init>") {k p : Nat} {E : Nat → va_E} (hz : G.s.heap.size = G.bs + k) (hp : p < k) (he : E p = .inr (11, dfl 11)) (kk : VK G f (k + 7) 7 8351 2086 [(0, .ref (G.bs + p))] [] (EM2 G.cA G.bs k p E)) : VK G f (k + 4) 4 262 1544 [(0, .ref (G.bs + p))] [] (EM1 G.cA G.bs k p E) := by
  refine VK_aload_n C0 0 rfl rfl dX12_init_1544 ?_
  refine VK_bipush C0 (v := (89 : Int32)) (by decide) dX12_init_1545 ?_
  refine VK_newI C0 89 (by decide) (by decide +kernel) (by decide) (by rw [erm]; decide) (by rw [erm]; decide) dX12_init_1547 ?_
  refine VK_fill C0 (by omega) (p := (k + 4)) (p' := 2060) (by omega) (by decide) tv_1547 0 1549 (fun _ => 0) _ upE_at (by decide) tktv_1547 ?_
  refine VK_putF C0 (by omega) hnm 11 4 p ff_X12_22 (by omega) ((upE_ne (by omega)).trans ((upE_ne (by omega)).trans (EM1_p he))) (by simp only [List.length_set, fsM1_len]; decide) (ty := (.array .int)) (by decide +kernel) rfl rfl dX12_init_2060 ?_
  refine VK_aload_n C0 0 rfl rfl dX12_init_2063 ?_
  refine VK_sipush C0 (v := (4000 : Int32)) (by decide) dX12_init_2064 ?_
  refine VK_newI C0 4000 (by decide) (by decide +kernel) (by decide) (by rw [erm]; decide) (by rw [erm]; decide) dX12_init_2067 ?_
  refine VK_putF C0 (by omega) hnm 11 6 p ff_X12_25 (by omega) ((upE_ne (by omega)).trans upE_at) (by simp only [List.length_set, fsM1_len]; decide) (ty := (.array .int)) (by decide +kernel) rfl rfl dX12_init_2069 ?_
  refine VK_aload_n C0 0 rfl rfl dX12_init_2072 ?_
  refine VK_sipush C0 (v := (4000 : Int32)) (by decide) dX12_init_2073 ?_
  refine VK_newI C0 4000 (by decide) (by decide +kernel) (by decide) (by rw [erm]; decide) (by rw [erm]; decide) dX12_init_2076 ?_
  refine VK_putF C0 (by omega) hnm 11 8 p ff_X12_28 (by omega) ((upE_ne (by omega)).trans upE_at) (by simp only [List.length_set, fsM1_len]; decide) (ty := (.array .int)) (by decide +kernel) rfl rfl dX12_init_2078 ?_
  refine VK_aload_n C0 0 rfl rfl dX12_init_2081 ?_
  refine VK_iconst C0 (v := (-1 : Int32)) (by decide) dX12_init_2082 ?_
  refine VK_put C0 (by omega) 11 16 p fp_X12_31 (by omega) upE_at (by simp only [List.length_set, fsM1_len]; decide) (ty := .int) (by decide +kernel) rfl rfl dX12_init_2083 ?_
  exact kk
def EM3 (cA : Nat → ClassId) (bs k p : Nat) (E : Nat → va_E) : Nat → va_E := (upE (upE (upE (upE (upE (upE (upE (upE (EM2 cA bs k p E) (k + 7) (.inl (cA 0, 20, .inl (fun _ => 0)))) p (.inr (11, ((fsM2 bs k).set 18 (Value.ref (bs + (k + 7))))))) (k + 8) (.inl (cA 0, 160, .inl (fun _ => 0)))) p (.inr (11, (((fsM2 bs k).set 18 (Value.ref (bs + (k + 7)))).set 19 (Value.ref (bs + (k + 8))))))) (k + 9) (.inl (cA 0, 60, .inl (fun _ => 0)))) p (.inr (11, ((((fsM2 bs k).set 18 (Value.ref (bs + (k + 7)))).set 19 (Value.ref (bs + (k + 8)))).set 20 (Value.ref (bs + (k + 9))))))) (k + 10) (.inl (cA 0, 160, .inl (fun _ => 0)))) p (.inr (11, (((((fsM2 bs k).set 18 (Value.ref (bs + (k + 7)))).set 19 (Value.ref (bs + (k + 8)))).set 20 (Value.ref (bs + (k + 9)))).set 22 (Value.ref (bs + (k + 10)))))))
def fsM3 (bs k : Nat) : List Value := (((((fsM2 bs k).set 18 (Value.ref (bs + (k + 7)))).set 19 (Value.ref (bs + (k + 8)))).set 20 (Value.ref (bs + (k + 9)))).set 22 (Value.ref (bs + (k + 10))))
theorem fsM3_len {bs k : Nat} : (fsM3 bs k).length = 64 := by simp only [fsM3, List.length_set, fsM2_len]
theorem EM3_p {cA : Nat → ClassId} {bs k p : Nat} {E : Nat → va_E} (he : E p = .inr (11, dfl 11)) : EM3 cA bs k p E p = .inr (11, fsM3 bs k) := upE_at
theorem EM3_ne {cA : Nat → ClassId} {bs k p : Nat} {E : Nat → va_E} {j : Nat} (h : j ≠ p) (hj : j < k) : EM3 cA bs k p E j = EM2 cA bs k p E j := by
  unfold EM3
  repeat rw [upE_ne (by omega)]
set_option maxRecDepth 100000 in
set_option maxHeartbeats 4000000 in
theorem ckM3 {G : Gm} {f : State → Prop} (C0 : Cx G RX12 cX12_init none) (erm : G.rm = ({ frames := 1, cells := 32, slots := 51580, locals := 20 } : Room)) (hnm : G.meth.name = "<init>") {k p : Nat} {E : Nat → va_E} (hz : G.s.heap.size = G.bs + k) (hp : p < k) (he : E p = .inr (11, dfl 11)) (kk : VK G f (k + 11) 11 8751 2120 [(0, .ref (G.bs + p))] [] (EM3 G.cA G.bs k p E)) : VK G f (k + 7) 7 8351 2086 [(0, .ref (G.bs + p))] [] (EM2 G.cA G.bs k p E) := by
  refine VK_aload_n C0 0 rfl rfl dX12_init_2086 ?_
  refine VK_bipush C0 (v := (20 : Int32)) (by decide) dX12_init_2087 ?_
  refine VK_newI C0 20 (by decide) (by decide +kernel) (by decide) (by rw [erm]; decide) (by rw [erm]; decide) dX12_init_2089 ?_
  refine VK_putF C0 (by omega) hnm 11 18 p ff_X12_35 (by omega) ((upE_ne (by omega)).trans (EM2_p he)) (by simp only [List.length_set, fsM2_len]; decide) (ty := (.array .int)) (by decide +kernel) rfl rfl dX12_init_2091 ?_
  refine VK_aload_n C0 0 rfl rfl dX12_init_2094 ?_
  refine VK_sipush C0 (v := (160 : Int32)) (by decide) dX12_init_2095 ?_
  refine VK_newI C0 160 (by decide) (by decide +kernel) (by decide) (by rw [erm]; decide) (by rw [erm]; decide) dX12_init_2098 ?_
  refine VK_putF C0 (by omega) hnm 11 19 p ff_X12_38 (by omega) ((upE_ne (by omega)).trans upE_at) (by simp only [List.length_set, fsM2_len]; decide) (ty := (.array .int)) (by decide +kernel) rfl rfl dX12_init_2100 ?_
  refine VK_aload_n C0 0 rfl rfl dX12_init_2103 ?_
  refine VK_bipush C0 (v := (60 : Int32)) (by decide) dX12_init_2104 ?_
  refine VK_newI C0 60 (by decide) (by decide +kernel) (by decide) (by rw [erm]; decide) (by rw [erm]; decide) dX12_init_2106 ?_
  refine VK_putF C0 (by omega) hnm 11 20 p ff_X12_41 (by omega) ((upE_ne (by omega)).trans upE_at) (by simp only [List.length_set, fsM2_len]; decide) (ty := (.array .int)) (by decide +kernel) rfl rfl dX12_init_2108 ?_
  refine VK_aload_n C0 0 rfl rfl dX12_init_2111 ?_
  refine VK_sipush C0 (v := (160 : Int32)) (by decide) dX12_init_2112 ?_
  refine VK_newI C0 160 (by decide) (by decide +kernel) (by decide) (by rw [erm]; decide) (by rw [erm]; decide) dX12_init_2115 ?_
  refine VK_putF C0 (by omega) hnm 11 22 p ff_X12_44 (by omega) ((upE_ne (by omega)).trans upE_at) (by simp only [List.length_set, fsM2_len]; decide) (ty := (.array .int)) (by decide +kernel) rfl rfl dX12_init_2117 ?_
  exact kk
def EM4 (cA : Nat → ClassId) (bs k p : Nat) (E : Nat → va_E) : Nat → va_E := (upE (upE (upE (upE (upE (upE (upE (upE (EM3 cA bs k p E) (k + 11) (.inl (cA 0, 60, .inl (fun _ => 0)))) p (.inr (11, ((fsM3 bs k).set 23 (Value.ref (bs + (k + 11))))))) (k + 12) (.inl (cA 0, 1300, .inl (fun _ => 0)))) p (.inr (11, (((fsM3 bs k).set 23 (Value.ref (bs + (k + 11)))).set 24 (Value.ref (bs + (k + 12))))))) (k + 13) (.inl (cA 0, 100, .inl (fun _ => 0)))) p (.inr (11, ((((fsM3 bs k).set 23 (Value.ref (bs + (k + 11)))).set 24 (Value.ref (bs + (k + 12)))).set 29 (Value.ref (bs + (k + 13))))))) (k + 14) (.inl (cA 0, 100, .inl (fun _ => 0)))) p (.inr (11, (((((fsM3 bs k).set 23 (Value.ref (bs + (k + 11)))).set 24 (Value.ref (bs + (k + 12)))).set 29 (Value.ref (bs + (k + 13)))).set 30 (Value.ref (bs + (k + 14)))))))
def fsM4 (bs k : Nat) : List Value := (((((fsM3 bs k).set 23 (Value.ref (bs + (k + 11)))).set 24 (Value.ref (bs + (k + 12)))).set 29 (Value.ref (bs + (k + 13)))).set 30 (Value.ref (bs + (k + 14))))
theorem fsM4_len {bs k : Nat} : (fsM4 bs k).length = 64 := by simp only [fsM4, List.length_set, fsM3_len]
theorem EM4_p {cA : Nat → ClassId} {bs k p : Nat} {E : Nat → va_E} (he : E p = .inr (11, dfl 11)) : EM4 cA bs k p E p = .inr (11, fsM4 bs k) := upE_at
theorem EM4_ne {cA : Nat → ClassId} {bs k p : Nat} {E : Nat → va_E} {j : Nat} (h : j ≠ p) (hj : j < k) : EM4 cA bs k p E j = EM3 cA bs k p E j := by
  unfold EM4
  repeat rw [upE_ne (by omega)]
set_option maxRecDepth 100000 in
set_option maxHeartbeats 4000000 in
theorem ckM4 {G : Gm} {f : State → Prop} (C0 : Cx G RX12 cX12_init none) (erm : G.rm = ({ frames := 1, cells := 32, slots := 51580, locals := 20 } : Room)) (hnm : G.meth.name = "<init>") {k p : Nat} {E : Nat → va_E} (hz : G.s.heap.size = G.bs + k) (hp : p < k) (he : E p = .inr (11, dfl 11)) (kk : VK G f (k + 15) 15 10311 2153 [(0, .ref (G.bs + p))] [] (EM4 G.cA G.bs k p E)) : VK G f (k + 11) 11 8751 2120 [(0, .ref (G.bs + p))] [] (EM3 G.cA G.bs k p E) := by
  refine VK_aload_n C0 0 rfl rfl dX12_init_2120 ?_
  refine VK_bipush C0 (v := (60 : Int32)) (by decide) dX12_init_2121 ?_
  refine VK_newI C0 60 (by decide) (by decide +kernel) (by decide) (by rw [erm]; decide) (by rw [erm]; decide) dX12_init_2123 ?_
  refine VK_putF C0 (by omega) hnm 11 23 p ff_X12_47 (by omega) ((upE_ne (by omega)).trans (EM3_p he)) (by simp only [List.length_set, fsM3_len]; decide) (ty := (.array .int)) (by decide +kernel) rfl rfl dX12_init_2125 ?_
  refine VK_aload_n C0 0 rfl rfl dX12_init_2128 ?_
  refine VK_sipush C0 (v := (1300 : Int32)) (by decide) dX12_init_2129 ?_
  refine VK_newI C0 1300 (by decide) (by decide +kernel) (by decide) (by rw [erm]; decide) (by rw [erm]; decide) dX12_init_2132 ?_
  refine VK_putF C0 (by omega) hnm 11 24 p ff_X12_50 (by omega) ((upE_ne (by omega)).trans upE_at) (by simp only [List.length_set, fsM3_len]; decide) (ty := (.array .int)) (by decide +kernel) rfl rfl dX12_init_2134 ?_
  refine VK_aload_n C0 0 rfl rfl dX12_init_2137 ?_
  refine VK_bipush C0 (v := (100 : Int32)) (by decide) dX12_init_2138 ?_
  refine VK_newI C0 100 (by decide) (by decide +kernel) (by decide) (by rw [erm]; decide) (by rw [erm]; decide) dX12_init_2140 ?_
  refine VK_putF C0 (by omega) hnm 11 29 p ff_X12_53 (by omega) ((upE_ne (by omega)).trans upE_at) (by simp only [List.length_set, fsM3_len]; decide) (ty := (.array .int)) (by decide +kernel) rfl rfl dX12_init_2142 ?_
  refine VK_aload_n C0 0 rfl rfl dX12_init_2145 ?_
  refine VK_bipush C0 (v := (100 : Int32)) (by decide) dX12_init_2146 ?_
  refine VK_newI C0 100 (by decide) (by decide +kernel) (by decide) (by rw [erm]; decide) (by rw [erm]; decide) dX12_init_2148 ?_
  refine VK_putF C0 (by omega) hnm 11 30 p ff_X12_56 (by omega) ((upE_ne (by omega)).trans upE_at) (by simp only [List.length_set, fsM3_len]; decide) (ty := (.array .int)) (by decide +kernel) rfl rfl dX12_init_2150 ?_
  exact kk
def EM5 (cA : Nat → ClassId) (bs k p : Nat) (E : Nat → va_E) : Nat → va_E := (upE (upE (upE (upE (upE (upE (upE (upE (EM4 cA bs k p E) (k + 15) (.inl (cA 0, 100, .inl (fun _ => 0)))) p (.inr (11, ((fsM4 bs k).set 31 (Value.ref (bs + (k + 15))))))) (k + 16) (.inl (cA 0, 6, .inl (fun _ => 0)))) p (.inr (11, (((fsM4 bs k).set 31 (Value.ref (bs + (k + 15)))).set 32 (Value.ref (bs + (k + 16))))))) (k + 17) (.inl (cA 0, 6, .inl (fun _ => 0)))) p (.inr (11, ((((fsM4 bs k).set 31 (Value.ref (bs + (k + 15)))).set 32 (Value.ref (bs + (k + 16)))).set 33 (Value.ref (bs + (k + 17))))))) (k + 18) (.inl (cA 0, 3, .inl (fun _ => 0)))) p (.inr (11, (((((fsM4 bs k).set 31 (Value.ref (bs + (k + 15)))).set 32 (Value.ref (bs + (k + 16)))).set 33 (Value.ref (bs + (k + 17)))).set 36 (Value.ref (bs + (k + 18)))))))
def fsM5 (bs k : Nat) : List Value := (((((fsM4 bs k).set 31 (Value.ref (bs + (k + 15)))).set 32 (Value.ref (bs + (k + 16)))).set 33 (Value.ref (bs + (k + 17)))).set 36 (Value.ref (bs + (k + 18))))
theorem fsM5_len {bs k : Nat} : (fsM5 bs k).length = 64 := by simp only [fsM5, List.length_set, fsM4_len]
theorem EM5_p {cA : Nat → ClassId} {bs k p : Nat} {E : Nat → va_E} (he : E p = .inr (11, dfl 11)) : EM5 cA bs k p E p = .inr (11, fsM5 bs k) := upE_at
theorem EM5_ne {cA : Nat → ClassId} {bs k p : Nat} {E : Nat → va_E} {j : Nat} (h : j ≠ p) (hj : j < k) : EM5 cA bs k p E j = EM4 cA bs k p E j := by
  unfold EM5
  repeat rw [upE_ne (by omega)]
set_option maxRecDepth 100000 in
set_option maxHeartbeats 4000000 in
theorem ckM5 {G : Gm} {f : State → Prop} (C0 : Cx G RX12 cX12_init none) (erm : G.rm = ({ frames := 1, cells := 32, slots := 51580, locals := 20 } : Room)) (hnm : G.meth.name = "<init>") {k p : Nat} {E : Nat → va_E} (hz : G.s.heap.size = G.bs + k) (hp : p < k) (he : E p = .inr (11, dfl 11)) (kk : VK G f (k + 19) 19 10426 2184 [(0, .ref (G.bs + p))] [] (EM5 G.cA G.bs k p E)) : VK G f (k + 15) 15 10311 2153 [(0, .ref (G.bs + p))] [] (EM4 G.cA G.bs k p E) := by
  refine VK_aload_n C0 0 rfl rfl dX12_init_2153 ?_
  refine VK_bipush C0 (v := (100 : Int32)) (by decide) dX12_init_2154 ?_
  refine VK_newI C0 100 (by decide) (by decide +kernel) (by decide) (by rw [erm]; decide) (by rw [erm]; decide) dX12_init_2156 ?_
  refine VK_putF C0 (by omega) hnm 11 31 p ff_X12_59 (by omega) ((upE_ne (by omega)).trans (EM4_p he)) (by simp only [List.length_set, fsM4_len]; decide) (ty := (.array .int)) (by decide +kernel) rfl rfl dX12_init_2158 ?_
  refine VK_aload_n C0 0 rfl rfl dX12_init_2161 ?_
  refine VK_bipush C0 (v := (6 : Int32)) (by decide) dX12_init_2162 ?_
  refine VK_newI C0 6 (by decide) (by decide +kernel) (by decide) (by rw [erm]; decide) (by rw [erm]; decide) dX12_init_2164 ?_
  refine VK_putF C0 (by omega) hnm 11 32 p ff_X12_62 (by omega) ((upE_ne (by omega)).trans upE_at) (by simp only [List.length_set, fsM4_len]; decide) (ty := (.array .int)) (by decide +kernel) rfl rfl dX12_init_2166 ?_
  refine VK_aload_n C0 0 rfl rfl dX12_init_2169 ?_
  refine VK_bipush C0 (v := (6 : Int32)) (by decide) dX12_init_2170 ?_
  refine VK_newI C0 6 (by decide) (by decide +kernel) (by decide) (by rw [erm]; decide) (by rw [erm]; decide) dX12_init_2172 ?_
  refine VK_putF C0 (by omega) hnm 11 33 p ff_X12_65 (by omega) ((upE_ne (by omega)).trans upE_at) (by simp only [List.length_set, fsM4_len]; decide) (ty := (.array .int)) (by decide +kernel) rfl rfl dX12_init_2174 ?_
  refine VK_aload_n C0 0 rfl rfl dX12_init_2177 ?_
  refine VK_iconst C0 (v := (3 : Int32)) (by decide) dX12_init_2178 ?_
  refine VK_newI C0 3 (by decide) (by decide +kernel) (by decide) (by rw [erm]; decide) (by rw [erm]; decide) dX12_init_2179 ?_
  refine VK_putF C0 (by omega) hnm 11 36 p ff_X12_68 (by omega) ((upE_ne (by omega)).trans upE_at) (by simp only [List.length_set, fsM4_len]; decide) (ty := (.array .int)) (by decide +kernel) rfl rfl dX12_init_2181 ?_
  exact kk
def EM6 (cA : Nat → ClassId) (bs k p : Nat) (E : Nat → va_E) : Nat → va_E := (upE (upE (upE (upE (upE (upE (upE (upE (EM5 cA bs k p E) (k + 19) (.inl (cA 0, 3, .inl (fun _ => 0)))) p (.inr (11, ((fsM5 bs k).set 37 (Value.ref (bs + (k + 19))))))) (k + 20) (.inl (cA 0, 3, .inl (fun _ => 0)))) p (.inr (11, (((fsM5 bs k).set 37 (Value.ref (bs + (k + 19)))).set 38 (Value.ref (bs + (k + 20))))))) (k + 21) (.inl (cA 0, 500, .inl (fun _ => 0)))) p (.inr (11, ((((fsM5 bs k).set 37 (Value.ref (bs + (k + 19)))).set 38 (Value.ref (bs + (k + 20)))).set 51 (Value.ref (bs + (k + 21))))))) (k + 22) (.inl (cA 0, 40000, .inl (fun _ => 0)))) p (.inr (11, (((((fsM5 bs k).set 37 (Value.ref (bs + (k + 19)))).set 38 (Value.ref (bs + (k + 20)))).set 51 (Value.ref (bs + (k + 21)))).set 52 (Value.ref (bs + (k + 22)))))))
def fsM6 (bs k : Nat) : List Value := (((((fsM5 bs k).set 37 (Value.ref (bs + (k + 19)))).set 38 (Value.ref (bs + (k + 20)))).set 51 (Value.ref (bs + (k + 21)))).set 52 (Value.ref (bs + (k + 22))))
theorem fsM6_len {bs k : Nat} : (fsM6 bs k).length = 64 := by simp only [fsM6, List.length_set, fsM5_len]
theorem EM6_p {cA : Nat → ClassId} {bs k p : Nat} {E : Nat → va_E} (he : E p = .inr (11, dfl 11)) : EM6 cA bs k p E p = .inr (11, fsM6 bs k) := upE_at
theorem EM6_ne {cA : Nat → ClassId} {bs k p : Nat} {E : Nat → va_E} {j : Nat} (h : j ≠ p) (hj : j < k) : EM6 cA bs k p E j = EM5 cA bs k p E j := by
  unfold EM6
  repeat rw [upE_ne (by omega)]
set_option maxRecDepth 100000 in
set_option maxHeartbeats 4000000 in
theorem ckM6 {G : Gm} {f : State → Prop} (C0 : Cx G RX12 cX12_init none) (erm : G.rm = ({ frames := 1, cells := 32, slots := 51580, locals := 20 } : Room)) (hnm : G.meth.name = "<init>") {k p : Nat} {E : Nat → va_E} (hz : G.s.heap.size = G.bs + k) (hp : p < k) (he : E p = .inr (11, dfl 11)) (kk : VK G f (k + 23) 23 50932 2215 [(0, .ref (G.bs + p))] [] (EM6 G.cA G.bs k p E)) : VK G f (k + 19) 19 10426 2184 [(0, .ref (G.bs + p))] [] (EM5 G.cA G.bs k p E) := by
  refine VK_aload_n C0 0 rfl rfl dX12_init_2184 ?_
  refine VK_iconst C0 (v := (3 : Int32)) (by decide) dX12_init_2185 ?_
  refine VK_newI C0 3 (by decide) (by decide +kernel) (by decide) (by rw [erm]; decide) (by rw [erm]; decide) dX12_init_2186 ?_
  refine VK_putF C0 (by omega) hnm 11 37 p ff_X12_71 (by omega) ((upE_ne (by omega)).trans (EM5_p he)) (by simp only [List.length_set, fsM5_len]; decide) (ty := (.array .int)) (by decide +kernel) rfl rfl dX12_init_2188 ?_
  refine VK_aload_n C0 0 rfl rfl dX12_init_2191 ?_
  refine VK_iconst C0 (v := (3 : Int32)) (by decide) dX12_init_2192 ?_
  refine VK_newI C0 3 (by decide) (by decide +kernel) (by decide) (by rw [erm]; decide) (by rw [erm]; decide) dX12_init_2193 ?_
  refine VK_putF C0 (by omega) hnm 11 38 p ff_X12_74 (by omega) ((upE_ne (by omega)).trans upE_at) (by simp only [List.length_set, fsM5_len]; decide) (ty := (.array .int)) (by decide +kernel) rfl rfl dX12_init_2195 ?_
  refine VK_aload_n C0 0 rfl rfl dX12_init_2198 ?_
  refine VK_sipush C0 (v := (500 : Int32)) (by decide) dX12_init_2199 ?_
  refine VK_newI C0 500 (by decide) (by decide +kernel) (by decide) (by rw [erm]; decide) (by rw [erm]; decide) dX12_init_2202 ?_
  refine VK_putF C0 (by omega) hnm 11 51 p ff_X12_77 (by omega) ((upE_ne (by omega)).trans upE_at) (by simp only [List.length_set, fsM5_len]; decide) (ty := (.array .int)) (by decide +kernel) rfl rfl dX12_init_2204 ?_
  refine VK_aload_n C0 0 rfl rfl dX12_init_2207 ?_
  refine VK_ldc C0 kc_X12_80 dX12_init_2208 ?_
  refine VK_newI C0 40000 (by decide) (by decide +kernel) (by decide) (by rw [erm]; decide) (by rw [erm]; decide) dX12_init_2210 ?_
  refine VK_putF C0 (by omega) hnm 11 52 p ff_X12_81 (by omega) ((upE_ne (by omega)).trans upE_at) (by simp only [List.length_set, fsM5_len]; decide) (ty := (.array .int)) (by decide +kernel) rfl rfl dX12_init_2212 ?_
  exact kk
def EM7 (cA : Nat → ClassId) (bs k p : Nat) (E : Nat → va_E) : Nat → va_E := (upE (upE (upE (upE (upE (upE (upE (upE (EM6 cA bs k p E) (k + 23) (.inl (cA 0, 240, .inl (fun _ => 0)))) p (.inr (11, ((fsM6 bs k).set 55 (Value.ref (bs + (k + 23))))))) (k + 24) (.inl (cA 0, 240, .inl (fun _ => 0)))) p (.inr (11, (((fsM6 bs k).set 55 (Value.ref (bs + (k + 23)))).set 56 (Value.ref (bs + (k + 24))))))) (k + 25) (.inl (cA 0, 30, .inl (fun _ => 0)))) p (.inr (11, ((((fsM6 bs k).set 55 (Value.ref (bs + (k + 23)))).set 56 (Value.ref (bs + (k + 24)))).set 57 (Value.ref (bs + (k + 25))))))) (k + 26) (.inl (cA 0, 30, .inl (fun _ => 0)))) p (.inr (11, (((((fsM6 bs k).set 55 (Value.ref (bs + (k + 23)))).set 56 (Value.ref (bs + (k + 24)))).set 57 (Value.ref (bs + (k + 25)))).set 58 (Value.ref (bs + (k + 26)))))))
def fsM7 (bs k : Nat) : List Value := (((((fsM6 bs k).set 55 (Value.ref (bs + (k + 23)))).set 56 (Value.ref (bs + (k + 24)))).set 57 (Value.ref (bs + (k + 25)))).set 58 (Value.ref (bs + (k + 26))))
theorem fsM7_len {bs k : Nat} : (fsM7 bs k).length = 64 := by simp only [fsM7, List.length_set, fsM6_len]
theorem EM7_p {cA : Nat → ClassId} {bs k p : Nat} {E : Nat → va_E} (he : E p = .inr (11, dfl 11)) : EM7 cA bs k p E p = .inr (11, fsM7 bs k) := upE_at
theorem EM7_ne {cA : Nat → ClassId} {bs k p : Nat} {E : Nat → va_E} {j : Nat} (h : j ≠ p) (hj : j < k) : EM7 cA bs k p E j = EM6 cA bs k p E j := by
  unfold EM7
  repeat rw [upE_ne (by omega)]
set_option maxRecDepth 100000 in
set_option maxHeartbeats 4000000 in
theorem ckM7 {G : Gm} {f : State → Prop} (C0 : Cx G RX12 cX12_init none) (erm : G.rm = ({ frames := 1, cells := 32, slots := 51580, locals := 20 } : Room)) (hnm : G.meth.name = "<init>") {k p : Nat} {E : Nat → va_E} (hz : G.s.heap.size = G.bs + k) (hp : p < k) (he : E p = .inr (11, dfl 11)) (kk : VK G f (k + 27) 27 51472 2249 [(0, .ref (G.bs + p))] [] (EM7 G.cA G.bs k p E)) : VK G f (k + 23) 23 50932 2215 [(0, .ref (G.bs + p))] [] (EM6 G.cA G.bs k p E) := by
  refine VK_aload_n C0 0 rfl rfl dX12_init_2215 ?_
  refine VK_sipush C0 (v := (240 : Int32)) (by decide) dX12_init_2216 ?_
  refine VK_newI C0 240 (by decide) (by decide +kernel) (by decide) (by rw [erm]; decide) (by rw [erm]; decide) dX12_init_2219 ?_
  refine VK_putF C0 (by omega) hnm 11 55 p ff_X12_84 (by omega) ((upE_ne (by omega)).trans (EM6_p he)) (by simp only [List.length_set, fsM6_len]; decide) (ty := (.array .int)) (by decide +kernel) rfl rfl dX12_init_2221 ?_
  refine VK_aload_n C0 0 rfl rfl dX12_init_2224 ?_
  refine VK_sipush C0 (v := (240 : Int32)) (by decide) dX12_init_2225 ?_
  refine VK_newI C0 240 (by decide) (by decide +kernel) (by decide) (by rw [erm]; decide) (by rw [erm]; decide) dX12_init_2228 ?_
  refine VK_putF C0 (by omega) hnm 11 56 p ff_X12_87 (by omega) ((upE_ne (by omega)).trans upE_at) (by simp only [List.length_set, fsM6_len]; decide) (ty := (.array .int)) (by decide +kernel) rfl rfl dX12_init_2230 ?_
  refine VK_aload_n C0 0 rfl rfl dX12_init_2233 ?_
  refine VK_bipush C0 (v := (30 : Int32)) (by decide) dX12_init_2234 ?_
  refine VK_newI C0 30 (by decide) (by decide +kernel) (by decide) (by rw [erm]; decide) (by rw [erm]; decide) dX12_init_2236 ?_
  refine VK_putF C0 (by omega) hnm 11 57 p ff_X12_90 (by omega) ((upE_ne (by omega)).trans upE_at) (by simp only [List.length_set, fsM6_len]; decide) (ty := (.array .int)) (by decide +kernel) rfl rfl dX12_init_2238 ?_
  refine VK_aload_n C0 0 rfl rfl dX12_init_2241 ?_
  refine VK_bipush C0 (v := (30 : Int32)) (by decide) dX12_init_2242 ?_
  refine VK_newI C0 30 (by decide) (by decide +kernel) (by decide) (by rw [erm]; decide) (by rw [erm]; decide) dX12_init_2244 ?_
  refine VK_putF C0 (by omega) hnm 11 58 p ff_X12_93 (by omega) ((upE_ne (by omega)).trans upE_at) (by simp only [List.length_set, fsM6_len]; decide) (ty := (.array .int)) (by decide +kernel) rfl rfl dX12_init_2246 ?_
  exact kk
def EM8 (cA : Nat → ClassId) (bs k p : Nat) (E : Nat → va_E) : Nat → va_E := (upE (upE (upE (upE (upE (upE (upE (upE (upE (EM7 cA bs k p E) (k + 27) (.inl (cA 2, 30, .inl (fun _ => 0)))) p (.inr (11, ((fsM7 bs k).set 59 (Value.ref (bs + (k + 27))))))) (k + 28) (.inl (cA 2, 30, .inl (fun _ => 0)))) p (.inr (11, (((fsM7 bs k).set 59 (Value.ref (bs + (k + 27)))).set 60 (Value.ref (bs + (k + 28))))))) (k + 29) (.inl (cA 0, 16, .inl (fun _ => 0)))) (k + 29) (.inl (cA 0, 16, .inl (filled (fun _ => 0) 0 tv_2268)))) p (.inr (11, ((((fsM7 bs k).set 59 (Value.ref (bs + (k + 27)))).set 60 (Value.ref (bs + (k + 28)))).set 61 (Value.ref (bs + (k + 29))))))) (k + 30) (.inl (cA 0, 20, .inl (fun _ => 0)))) p (.inr (11, (((((fsM7 bs k).set 59 (Value.ref (bs + (k + 27)))).set 60 (Value.ref (bs + (k + 28)))).set 61 (Value.ref (bs + (k + 29)))).set 62 (Value.ref (bs + (k + 30)))))))
def fsM8 (bs k : Nat) : List Value := (((((fsM7 bs k).set 59 (Value.ref (bs + (k + 27)))).set 60 (Value.ref (bs + (k + 28)))).set 61 (Value.ref (bs + (k + 29)))).set 62 (Value.ref (bs + (k + 30))))
theorem fsM8_len {bs k : Nat} : (fsM8 bs k).length = 64 := by simp only [fsM8, List.length_set, fsM7_len]
theorem EM8_p {cA : Nat → ClassId} {bs k p : Nat} {E : Nat → va_E} (he : E p = .inr (11, dfl 11)) : EM8 cA bs k p E p = .inr (11, fsM8 bs k) := upE_at
theorem EM8_ne {cA : Nat → ClassId} {bs k p : Nat} {E : Nat → va_E} {j : Nat} (h : j ≠ p) (hj : j < k) : EM8 cA bs k p E j = EM7 cA bs k p E j := by
  unfold EM8
  repeat rw [upE_ne (by omega)]
set_option maxRecDepth 100000 in
set_option maxHeartbeats 4000000 in
theorem ckM8 {G : Gm} {f : State → Prop} (C0 : Cx G RX12 cX12_init none) (erm : G.rm = ({ frames := 1, cells := 32, slots := 51580, locals := 20 } : Room)) (hnm : G.meth.name = "<init>") {k p : Nat} {E : Nat → va_E} (hz : G.s.heap.size = G.bs + k) (hp : p < k) (he : E p = .inr (11, dfl 11)) (kk : VK G f (k + 31) 31 51568 2367 [(0, .ref (G.bs + p))] [] (EM8 G.cA G.bs k p E)) : VK G f (k + 27) 27 51472 2249 [(0, .ref (G.bs + p))] [] (EM7 G.cA G.bs k p E) := by
  refine VK_aload_n C0 0 rfl rfl dX12_init_2249 ?_
  refine VK_bipush C0 (v := (30 : Int32)) (by decide) dX12_init_2250 ?_
  refine VK_newZ C0 30 (by decide) (by decide +kernel) (by decide) (by rw [erm]; decide) (by rw [erm]; decide) dX12_init_2252 ?_
  refine VK_putF C0 (by omega) hnm 11 59 p ff_X12_96 (by omega) ((upE_ne (by omega)).trans (EM7_p he)) (by simp only [List.length_set, fsM7_len]; decide) (ty := (.array .boolean)) (by decide +kernel) rfl rfl dX12_init_2254 ?_
  refine VK_aload_n C0 0 rfl rfl dX12_init_2257 ?_
  refine VK_bipush C0 (v := (30 : Int32)) (by decide) dX12_init_2258 ?_
  refine VK_newZ C0 30 (by decide) (by decide +kernel) (by decide) (by rw [erm]; decide) (by rw [erm]; decide) dX12_init_2260 ?_
  refine VK_putF C0 (by omega) hnm 11 60 p ff_X12_100 (by omega) ((upE_ne (by omega)).trans upE_at) (by simp only [List.length_set, fsM7_len]; decide) (ty := (.array .boolean)) (by decide +kernel) rfl rfl dX12_init_2262 ?_
  refine VK_aload_n C0 0 rfl rfl dX12_init_2265 ?_
  refine VK_bipush C0 (v := (16 : Int32)) (by decide) dX12_init_2266 ?_
  refine VK_newI C0 16 (by decide) (by decide +kernel) (by decide) (by rw [erm]; decide) (by rw [erm]; decide) dX12_init_2268 ?_
  refine VK_fill C0 (by omega) (p := (k + 29)) (p' := 2356) (by omega) (by decide) tv_2268 0 2270 (fun _ => 0) _ upE_at (by decide) tktv_2268 ?_
  refine VK_putF C0 (by omega) hnm 11 61 p ff_X12_103 (by omega) ((upE_ne (by omega)).trans ((upE_ne (by omega)).trans upE_at)) (by simp only [List.length_set, fsM7_len]; decide) (ty := (.array .int)) (by decide +kernel) rfl rfl dX12_init_2356 ?_
  refine VK_aload_n C0 0 rfl rfl dX12_init_2359 ?_
  refine VK_bipush C0 (v := (20 : Int32)) (by decide) dX12_init_2360 ?_
  refine VK_newI C0 20 (by decide) (by decide +kernel) (by decide) (by rw [erm]; decide) (by rw [erm]; decide) dX12_init_2362 ?_
  refine VK_putF C0 (by omega) hnm 11 62 p ff_X12_106 (by omega) ((upE_ne (by omega)).trans upE_at) (by simp only [List.length_set, fsM7_len]; decide) (ty := (.array .int)) (by decide +kernel) rfl rfl dX12_init_2364 ?_
  exact kk
def EM9 (cA : Nat → ClassId) (bs k p : Nat) (E : Nat → va_E) : Nat → va_E := (upE (upE (EM8 cA bs k p E) (k + 31) (.inl (cA 0, 12, .inl (fun _ => 0)))) p (.inr (11, ((fsM8 bs k).set 63 (Value.ref (bs + (k + 31)))))))
def fsM9 (bs k : Nat) : List Value := ((fsM8 bs k).set 63 (Value.ref (bs + (k + 31))))
theorem fsM9_len {bs k : Nat} : (fsM9 bs k).length = 64 := by simp only [fsM9, List.length_set, fsM8_len]
theorem EM9_p {cA : Nat → ClassId} {bs k p : Nat} {E : Nat → va_E} (he : E p = .inr (11, dfl 11)) : EM9 cA bs k p E p = .inr (11, fsM9 bs k) := upE_at
theorem EM9_ne {cA : Nat → ClassId} {bs k p : Nat} {E : Nat → va_E} {j : Nat} (h : j ≠ p) (hj : j < k) : EM9 cA bs k p E j = EM8 cA bs k p E j := by
  unfold EM9
  repeat rw [upE_ne (by omega)]
set_option maxRecDepth 100000 in
set_option maxHeartbeats 4000000 in
theorem ckM9 {G : Gm} {f : State → Prop} (C0 : Cx G RX12 cX12_init none) (erm : G.rm = ({ frames := 1, cells := 32, slots := 51580, locals := 20 } : Room)) (hnm : G.meth.name = "<init>") {k p : Nat} {E : Nat → va_E} (hz : G.s.heap.size = G.bs + k) (hp : p < k) (he : E p = .inr (11, dfl 11)) (kk : VK G f (k + 32) 32 51580 2375 [(0, .ref (G.bs + p))] [] (EM9 G.cA G.bs k p E)) : VK G f (k + 31) 31 51568 2367 [(0, .ref (G.bs + p))] [] (EM8 G.cA G.bs k p E) := by
  refine VK_aload_n C0 0 rfl rfl dX12_init_2367 ?_
  refine VK_bipush C0 (v := (12 : Int32)) (by decide) dX12_init_2368 ?_
  refine VK_newI C0 12 (by decide) (by decide +kernel) (by decide) (by rw [erm]; decide) (by rw [erm]; decide) dX12_init_2370 ?_
  refine VK_putF C0 (by omega) hnm 11 63 p ff_X12_109 (by omega) ((upE_ne (by omega)).trans (EM8_p he)) (by simp only [List.length_set, fsM8_len]; decide) (ty := (.array .int)) (by decide +kernel) rfl rfl dX12_init_2372 ?_
  exact kk
def E_X12_init (cA : Nat → ClassId) (bs k p : Nat) (E : Nat → va_E) : Nat → va_E := EM9 cA bs k p E
theorem E_X12_init_ne {cA : Nat → ClassId} {bs k p : Nat} {E : Nat → va_E} {j : Nat} (h : j ≠ p) (hj : j < k) : E_X12_init cA bs k p E j = E j := by
  unfold E_X12_init
  rw [EM9_ne h hj, EM8_ne h hj, EM7_ne h hj, EM6_ne h hj, EM5_ne h hj, EM4_ne h hj, EM3_ne h hj, EM2_ne h hj, EM1_ne h hj]
  rfl
theorem k_X12_init (l : Launch) (D : va_G) (cA : Nat → ClassId) (ad : Nat → Nat) (bs : Nat) (X : State → Prop) (hAd : Ax ad bs) (hX : Stb bs X) (k p : Nat) (E : Nat → va_E) (hp : p < k) (he : E p = .inr (11, dfl 11)) : CnK l D cA bs X yX12_init cX12_init 1 1 20 32 51580 [.ref (bs + p)] k E (k + 32) (E_X12_init cA bs k p E) := by
  refine CnK.ofV hAd hX [(0, .ref (bs + p))] rfl (Nat.le_of_ble_eq_true rfl) (by decide) ?_
  intro G el eD ecA ead ebs eX erm eNL hnm hz C0
  subst el eD ecA ead ebs eX
  refine VK_aload_n C0 0 rfl rfl dX12_init_0 ?_
  refine VK_obj C0 lo_X12 (by rw [erm]; decide) (Nat.le_of_ble_eq_true rfl) dX12_init_1 ?_
  refine ckM1 C0 erm hnm hz hp he ?_
  refine ckM2 C0 erm hnm hz hp he ?_
  refine ckM3 C0 erm hnm hz hp he ?_
  refine ckM4 C0 erm hnm hz hp he ?_
  refine ckM5 C0 erm hnm hz hp he ?_
  refine ckM6 C0 erm hnm hz hp he ?_
  refine ckM7 C0 erm hnm hz hp he ?_
  refine ckM8 C0 erm hnm hz hp he ?_
  refine ckM9 C0 erm hnm hz hp he ?_
  exact VK_vret C0 dX12_init_2375
