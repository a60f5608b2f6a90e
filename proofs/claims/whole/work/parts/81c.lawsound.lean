/-! The law itself: each entry is sound (printed by wip/whole/gen80.py). -/
theorem wl_1140 : Cond.methodLink "FalseLightMarshLaw" 302 yL_hasPassed ∈ zTs := z_in (i := 1140) (by decide +kernel) (by decide +kernel)
theorem wl_1147 : Cond.methodLink "FalseLightMarshLaw" 305 yL_distrusts ∈ zTs := z_in (i := 1147) (by decide +kernel) (by decide +kernel)
theorem wl_1154 : Cond.methodLink "FalseLightMarshLaw" 308 yL_sees ∈ zTs := z_in (i := 1154) (by decide +kernel) (by decide +kernel)
theorem wl_1162 : Cond.methodLink "FalseLightMarshLaw" 311 yL_nearestLight ∈ zTs := z_in (i := 1162) (by decide +kernel) (by decide +kernel)
theorem wl_1171 : Cond.methodLink "FalseLightMarshLaw" 336 yL_ticksUntilDone ∈ zTs := z_in (i := 1171) (by decide +kernel) (by decide +kernel)
theorem wl_1184 : Cond.methodLink "FalseLightMarshLaw" 339 yL_willArrive ∈ zTs := z_in (i := 1184) (by decide +kernel) (by decide +kernel)
theorem wl_1191 : Cond.methodLink "FalseLightMarshLaw" 342 yL_arrivedAfter ∈ zTs := z_in (i := 1191) (by decide +kernel) (by decide +kernel)
theorem wl_1202 : Cond.methodLink "FalseLightMarshLaw" 345 yL_sunkAfter ∈ zTs := z_in (i := 1202) (by decide +kernel) (by decide +kernel)
theorem wl_1209 : Cond.methodLink "FalseLightMarshLaw" 352 yL_tick ∈ zTs := z_in (i := 1209) (by decide +kernel) (by decide +kernel)
theorem wl_1224 : Cond.methodLink "FalseLightMarshLaw" 355 yL_addLight ∈ zTs := z_in (i := 1224) (by decide +kernel) (by decide +kernel)
theorem wl_1235 : Cond.methodLink "FalseLightMarshLaw" 359 yL_addTraveller ∈ zTs := z_in (i := 1235) (by decide +kernel) (by decide +kernel)
theorem wl_1245 : Cond.methodLink "FalseLightMarshLaw" 362 yL_setSuccessor ∈ zTs := z_in (i := 1245) (by decide +kernel) (by decide +kernel)
theorem wl_1740 : Cond.methodLink "FalseLightMarshLaw" 304 yX9_hasPassed ∈ zTs := z_in (i := 1740) (by decide +kernel) (by decide +kernel)
theorem wl_1748 : Cond.methodLink "FalseLightMarshLaw" 307 yX9_distrusts ∈ zTs := z_in (i := 1748) (by decide +kernel) (by decide +kernel)
theorem wl_1752 : Cond.methodLink "FalseLightMarshLaw" 310 yX9_sees ∈ zTs := z_in (i := 1752) (by decide +kernel) (by decide +kernel)
theorem wl_1768 : Cond.methodLink "FalseLightMarshLaw" 313 yX9_nearestLight ∈ zTs := z_in (i := 1768) (by decide +kernel) (by decide +kernel)
theorem wl_1778 : Cond.methodLink "FalseLightMarshLaw" 317 yX9_walkingCount ∈ zTs := z_in (i := 1778) (by decide +kernel) (by decide +kernel)
theorem wl_1785 : Cond.methodLink "FalseLightMarshLaw" 321 yX9_arrivedCount ∈ zTs := z_in (i := 1785) (by decide +kernel) (by decide +kernel)
theorem wl_1789 : Cond.methodLink "FalseLightMarshLaw" 325 yX9_sunkCount ∈ zTs := z_in (i := 1789) (by decide +kernel) (by decide +kernel)
theorem wl_1793 : Cond.methodLink "FalseLightMarshLaw" 330 yX9_arrivedShare ∈ zTs := z_in (i := 1793) (by decide +kernel) (by decide +kernel)
theorem wl_1797 : Cond.methodLink "FalseLightMarshLaw" 335 yX9_meanSteps ∈ zTs := z_in (i := 1797) (by decide +kernel) (by decide +kernel)
theorem wl_1801 : Cond.methodLink "FalseLightMarshLaw" 338 yX9_ticksUntilDone ∈ zTs := z_in (i := 1801) (by decide +kernel) (by decide +kernel)
theorem wl_1839 : Cond.methodLink "FalseLightMarshLaw" 341 yX9_willArrive ∈ zTs := z_in (i := 1839) (by decide +kernel) (by decide +kernel)
theorem wl_1847 : Cond.methodLink "FalseLightMarshLaw" 344 yX9_arrivedAfter ∈ zTs := z_in (i := 1847) (by decide +kernel) (by decide +kernel)
theorem wl_1855 : Cond.methodLink "FalseLightMarshLaw" 347 yX9_sunkAfter ∈ zTs := z_in (i := 1855) (by decide +kernel) (by decide +kernel)
theorem wl_1859 : Cond.methodLink "FalseLightMarshLaw" 351 yX9_bestClearness ∈ zTs := z_in (i := 1859) (by decide +kernel) (by decide +kernel)
theorem wl_1863 : Cond.methodLink "FalseLightMarshLaw" 354 yX9_tick ∈ zTs := z_in (i := 1863) (by decide +kernel) (by decide +kernel)
theorem wl_1871 : Cond.methodLink "FalseLightMarshLaw" 358 yX9_addLight ∈ zTs := z_in (i := 1871) (by decide +kernel) (by decide +kernel)
theorem wl_1875 : Cond.methodLink "FalseLightMarshLaw" 361 yX9_addTraveller ∈ zTs := z_in (i := 1875) (by decide +kernel) (by decide +kernel)
theorem wl_1879 : Cond.methodLink "FalseLightMarshLaw" 364 yX9_setSuccessor ∈ zTs := z_in (i := 1879) (by decide +kernel) (by decide +kernel)
theorem wl_594 : Cond.methodLink "FalseLightMarshLaw" 314 yX8_walkingCount ∈ zTs := z_in (i := 594) (by decide +kernel) (by decide +kernel)
theorem wl_602 : Cond.methodLink "FalseLightMarshLaw" 318 yX8_arrivedCount ∈ zTs := z_in (i := 602) (by decide +kernel) (by decide +kernel)
theorem wl_606 : Cond.methodLink "FalseLightMarshLaw" 322 yX8_sunkCount ∈ zTs := z_in (i := 606) (by decide +kernel) (by decide +kernel)
theorem wl_610 : Cond.methodLink "FalseLightMarshLaw" 326 yX8_arrivedShare ∈ zTs := z_in (i := 610) (by decide +kernel) (by decide +kernel)
theorem wl_614 : Cond.methodLink "FalseLightMarshLaw" 331 yX8_meanSteps ∈ zTs := z_in (i := 614) (by decide +kernel) (by decide +kernel)
theorem wl_622 : Cond.methodLink "FalseLightMarshLaw" 348 yX8_bestClearness ∈ zTs := z_in (i := 622) (by decide +kernel) (by decide +kernel)
theorem dL_law_2133 : decode cL_law 2133 = .ok (.iload 4, 2) := by decide +kernel
theorem dL_law_2135 : decode cL_law 2135 = .ok (.iconst 1, 1) := by decide +kernel
theorem dL_law_2136 : decode cL_law 2136 = .ok (.iadd, 1) := by decide +kernel
theorem dL_law_2137 : decode cL_law 2137 = .ok (.iaload, 1) := by decide +kernel
theorem dL_law_2138 : decode cL_law 2138 = .ok (.aload_n 0, 1) := by decide +kernel
theorem dL_law_2139 : decode cL_law 2139 = .ok (.iload 4, 2) := by decide +kernel
theorem dL_law_2141 : decode cL_law 2141 = .ok (.iconst 2, 1) := by decide +kernel
theorem dL_law_2142 : decode cL_law 2142 = .ok (.iadd, 1) := by decide +kernel
theorem dL_law_2143 : decode cL_law 2143 = .ok (.iaload, 1) := by decide +kernel
theorem dL_law_2144 : decode cL_law 2144 = .ok (.aload_n 3, 1) := by decide +kernel
theorem dL_law_2145 : decode cL_law 2145 = .ok (.invokestatic 302, 3) := by decide +kernel
theorem dL_law_2148 : decode cL_law 2148 = .ok (.istore 5, 2) := by decide +kernel
theorem dL_law_2150 : decode cL_law 2150 = .ok (.aload_n 2, 1) := by decide +kernel
theorem dL_law_2151 : decode cL_law 2151 = .ok (.aload_n 0, 1) := by decide +kernel
theorem dL_law_2152 : decode cL_law 2152 = .ok (.iload 4, 2) := by decide +kernel
theorem dL_law_2154 : decode cL_law 2154 = .ok (.iconst 1, 1) := by decide +kernel
theorem dL_law_2155 : decode cL_law 2155 = .ok (.iadd, 1) := by decide +kernel
theorem dL_law_2156 : decode cL_law 2156 = .ok (.iaload, 1) := by decide +kernel
theorem dL_law_2157 : decode cL_law 2157 = .ok (.aload_n 0, 1) := by decide +kernel
theorem dL_law_2158 : decode cL_law 2158 = .ok (.iload 4, 2) := by decide +kernel
theorem dL_law_2160 : decode cL_law 2160 = .ok (.iconst 2, 1) := by decide +kernel
theorem dL_law_2161 : decode cL_law 2161 = .ok (.iadd, 1) := by decide +kernel
theorem dL_law_2162 : decode cL_law 2162 = .ok (.iaload, 1) := by decide +kernel
theorem dL_law_2163 : decode cL_law 2163 = .ok (.invokevirtual 304, 3) := by decide +kernel
theorem dL_law_2166 : decode cL_law 2166 = .ok (.istore 6, 2) := by decide +kernel
theorem dL_law_2168 : decode cL_law 2168 = .ok (.aload_n 2, 1) := by decide +kernel
theorem dL_law_2169 : decode cL_law 2169 = .ok (.invokevirtual 180, 3) := by decide +kernel
theorem dL_law_2172 : decode cL_law 2172 = .ok (.iload 5, 2) := by decide +kernel
theorem dL_law_2174 : decode cL_law 2174 = .ok (.if_icmp .eq 5, 3) := by decide +kernel
theorem dL_law_2177 : decode cL_law 2177 = .ok (.iconst 0, 1) := by decide +kernel
theorem dL_law_2178 : decode cL_law 2178 = .ok (.ireturn, 1) := by decide +kernel
theorem dL_law_2179 : decode cL_law 2179 = .ok (.iload 5, 2) := by decide +kernel
theorem dL_law_2181 : decode cL_law 2181 = .ok (.ifCond .ne 22, 3) := by decide +kernel
theorem dL_law_2184 : decode cL_law 2184 = .ok (.aload_n 3, 1) := by decide +kernel
theorem dL_law_2185 : decode cL_law 2185 = .ok (.iconst 0, 1) := by decide +kernel
theorem dL_law_2186 : decode cL_law 2186 = .ok (.laload, 1) := by decide +kernel
theorem dL_law_2187 : decode cL_law 2187 = .ok (.iload 6, 2) := by decide +kernel
theorem dL_law_2189 : decode cL_law 2189 = .ok (.ifCond .eq 7, 3) := by decide +kernel
theorem dL_law_2192 : decode cL_law 2192 = .ok (.lconst 1, 1) := by decide +kernel
theorem dL_law_2193 : decode cL_law 2193 = .ok (.goto 4, 3) := by decide +kernel
theorem dL_law_2196 : decode cL_law 2196 = .ok (.lconst 0, 1) := by decide +kernel
theorem dL_law_2197 : decode cL_law 2197 = .ok (.lcmp, 1) := by decide +kernel
theorem dL_law_2198 : decode cL_law 2198 = .ok (.ifCond .eq 5, 3) := by decide +kernel
theorem dL_law_2201 : decode cL_law 2201 = .ok (.iconst 0, 1) := by decide +kernel
theorem dL_law_2202 : decode cL_law 2202 = .ok (.ireturn, 1) := by decide +kernel
theorem dL_law_2203 : decode cL_law 2203 = .ok (.goto 1429, 3) := by decide +kernel
theorem dL_law_2206 : decode cL_law 2206 = .ok (.aload_n 1, 1) := by decide +kernel
theorem dL_law_2207 : decode cL_law 2207 = .ok (.aload_n 0, 1) := by decide +kernel
theorem dL_law_2208 : decode cL_law 2208 = .ok (.iload 4, 2) := by decide +kernel
theorem dL_law_2210 : decode cL_law 2210 = .ok (.iconst 1, 1) := by decide +kernel
theorem dL_law_2211 : decode cL_law 2211 = .ok (.iadd, 1) := by decide +kernel
theorem dL_law_2212 : decode cL_law 2212 = .ok (.iaload, 1) := by decide +kernel
theorem dL_law_2213 : decode cL_law 2213 = .ok (.aload_n 0, 1) := by decide +kernel
theorem dL_law_2214 : decode cL_law 2214 = .ok (.iload 4, 2) := by decide +kernel
theorem dL_law_2216 : decode cL_law 2216 = .ok (.iconst 2, 1) := by decide +kernel
theorem dL_law_2217 : decode cL_law 2217 = .ok (.iadd, 1) := by decide +kernel
theorem dL_law_2218 : decode cL_law 2218 = .ok (.iaload, 1) := by decide +kernel
theorem dL_law_2219 : decode cL_law 2219 = .ok (.aload_n 3, 1) := by decide +kernel
theorem dL_law_2220 : decode cL_law 2220 = .ok (.invokestatic 305, 3) := by decide +kernel
theorem dL_law_2223 : decode cL_law 2223 = .ok (.istore 5, 2) := by decide +kernel
theorem dL_law_2225 : decode cL_law 2225 = .ok (.aload_n 2, 1) := by decide +kernel
theorem dL_law_2226 : decode cL_law 2226 = .ok (.aload_n 0, 1) := by decide +kernel
theorem dL_law_2227 : decode cL_law 2227 = .ok (.iload 4, 2) := by decide +kernel
theorem dL_law_2229 : decode cL_law 2229 = .ok (.iconst 1, 1) := by decide +kernel
theorem tLaw18 {LL : Nat} {xs : Nat → Int32} {N : Nat} : z_AllE (zX1 LL xs N) 1153 (zLK18 LL xs N) :=
  z_ac (j := 1154) rfl (zx_I (sp_iload dL_law_2133 rfl)) <|
  z_ac (j := 1155) rfl (zx_I (sp_iconst dL_law_2135 (by decide +kernel) rfl)) <|
  z_ac (j := 1156) rfl (zx_I (sp_iadd dL_law_2136 rfl)) <|
  z_ac (j := 1157) rfl (zx_I (sp_sld dL_law_2137 rfl)) <|
  z_ac (j := 1158) rfl (zx_I (sp_aload_n (q := 0) dL_law_2138 rfl rfl)) <|
  z_ac (j := 1159) rfl (zx_I (sp_iload dL_law_2139 rfl)) <|
  z_ac (j := 1160) rfl (zx_I (sp_iconst dL_law_2141 (by decide +kernel) rfl)) <|
  z_ac (j := 1161) rfl (zx_I (sp_iadd dL_law_2142 rfl)) <|
  z_ac (j := 1162) rfl (zx_I (sp_sld dL_law_2143 rfl)) <|
  z_ac (j := 1163) rfl (zx_I (sp_aload_n (q := 3) dL_law_2144 rfl rfl)) <|
  z_ac (j := 1164) rfl (zx_W dL_law_2145 wl_1140 qL_hasPassed (by decide +kernel) rfl) <|
  z_ac (j := 1165) rfl (zx_I (sp_istore dL_law_2148 (by decide) (fun j hj => by have e : j = 4 := (by omega); subst e; rfl) rfl)) <|
  z_ac (j := 1166) rfl (zx_I (sp_aload_n (q := 2) dL_law_2150 rfl rfl)) <|
  z_ac (j := 1167) rfl (zx_I (sp_aload_n (q := 0) dL_law_2151 rfl rfl)) <|
  z_ac (j := 1168) rfl (zx_I (sp_iload dL_law_2152 rfl)) <|
  z_ac (j := 1169) rfl (zx_I (sp_iconst dL_law_2154 (by decide +kernel) rfl)) <|
  z_ac (j := 1170) rfl (zx_I (sp_iadd dL_law_2155 rfl)) <|
  z_ac (j := 1171) rfl (zx_I (sp_sld dL_law_2156 rfl)) <|
  z_ac (j := 1172) rfl (zx_I (sp_aload_n (q := 0) dL_law_2157 rfl rfl)) <|
  z_ac (j := 1173) rfl (zx_I (sp_iload dL_law_2158 rfl)) <|
  z_ac (j := 1174) rfl (zx_I (sp_iconst dL_law_2160 (by decide +kernel) rfl)) <|
  z_ac (j := 1175) rfl (zx_I (sp_iadd dL_law_2161 rfl)) <|
  z_ac (j := 1176) rfl (zx_I (sp_sld dL_law_2162 rfl)) <|
  z_ac (j := 1177) rfl (zx_V dL_law_2163 wl_1740 qX9_hasPassed (by decide +kernel) ⟨_, _, rfl⟩ rfl) <|
  z_ac (j := 1178) rfl (zx_I (sp_istoreK dL_law_2166 (by decide) (by decide) rfl)) <|
  z_ac (j := 1179) rfl (zx_I (sp_aload_n (q := 2) dL_law_2168 rfl rfl)) <|
  z_ac (j := 1180) rfl (zx_V dL_law_2169 wl_1416 qX9_thrown (by decide +kernel) ⟨_, _, rfl⟩ rfl) <|
  z_ac (j := 1181) rfl (zx_I (sp_iload dL_law_2172 rfl)) <|
  z_ac (j := 1182) rfl (zx_I (sp_icmp_eq dL_law_2174 rfl rfl)) <|
  z_ac (j := 1183) rfl (zx_I (sp_iconst dL_law_2177 (by decide +kernel) rfl)) <|
  z_ac (j := 1184) rfl (zx_R (sr_bool dL_law_2178 rfl)) <|
  z_ac (j := 1185) rfl (zx_I (sp_iload dL_law_2179 rfl)) <|
  z_ac (j := 1186) rfl (zx_I (sp_if_ne dL_law_2181 rfl rfl)) <|
  z_ac (j := 1187) rfl (zx_I (sp_aload_n (q := 3) dL_law_2184 rfl rfl)) <|
  z_ac (j := 1188) rfl (zx_I (sp_iconst dL_law_2185 (by decide +kernel) rfl)) <|
  z_ac (j := 1189) rfl (zx_I (sp_lald dL_law_2186 rfl)) <|
  z_ac (j := 1190) rfl (zx_I (sp_iload dL_law_2187 rfl)) <|
  z_ac (j := 1191) rfl (zx_I (sp_if_eq dL_law_2189 rfl rfl)) <|
  z_ac (j := 1192) rfl (zx_I (sp_lconst (n := 1) dL_law_2192 (by decide +kernel) rfl)) <|
  z_ac (j := 1193) rfl (zx_I (sp_goto dL_law_2193 rfl)) <|
  z_ac (j := 1194) rfl (zx_I (sp_lconst (n := 0) dL_law_2196 (by decide +kernel) rfl)) <|
  z_ac (j := 1195) rfl (zx_I (sp_lcmp dL_law_2197 rfl)) <|
  z_ac (j := 1196) rfl (zx_I (sp_if_eq dL_law_2198 rfl rfl)) <|
  z_ac (j := 1197) rfl (zx_I (sp_iconst dL_law_2201 (by decide +kernel) rfl)) <|
  z_ac (j := 1198) rfl (zx_R (sr_bool dL_law_2202 rfl)) <|
  z_ac (j := 1199) rfl (zx_I (sp_goto dL_law_2203 rfl)) <|
  z_ac (j := 1200) rfl (zx_I (sp_aload_n (q := 1) dL_law_2206 rfl rfl)) <|
  z_ac (j := 1201) rfl (zx_I (sp_aload_n (q := 0) dL_law_2207 rfl rfl)) <|
  z_ac (j := 1202) rfl (zx_I (sp_iload dL_law_2208 rfl)) <|
  z_ac (j := 1203) rfl (zx_I (sp_iconst dL_law_2210 (by decide +kernel) rfl)) <|
  z_ac (j := 1204) rfl (zx_I (sp_iadd dL_law_2211 rfl)) <|
  z_ac (j := 1205) rfl (zx_I (sp_sld dL_law_2212 rfl)) <|
  z_ac (j := 1206) rfl (zx_I (sp_aload_n (q := 0) dL_law_2213 rfl rfl)) <|
  z_ac (j := 1207) rfl (zx_I (sp_iload dL_law_2214 rfl)) <|
  z_ac (j := 1208) rfl (zx_I (sp_iconst dL_law_2216 (by decide +kernel) rfl)) <|
  z_ac (j := 1209) rfl (zx_I (sp_iadd dL_law_2217 rfl)) <|
  z_ac (j := 1210) rfl (zx_I (sp_sld dL_law_2218 rfl)) <|
  z_ac (j := 1211) rfl (zx_I (sp_aload_n (q := 3) dL_law_2219 rfl rfl)) <|
  z_ac (j := 1212) rfl (zx_W dL_law_2220 wl_1147 qL_distrusts (by decide +kernel) rfl) <|
  z_ac (j := 1213) rfl (zx_I (sp_istore dL_law_2223 (by decide) (fun j hj => by have e : j = 4 := (by omega); subst e; rfl) rfl)) <|
  z_ac (j := 1214) rfl (zx_I (sp_aload_n (q := 2) dL_law_2225 rfl rfl)) <|
  z_ac (j := 1215) rfl (zx_I (sp_aload_n (q := 0) dL_law_2226 rfl rfl)) <|
  z_ac (j := 1216) rfl (zx_I (sp_iload dL_law_2227 rfl)) <|
  z_ac (j := 1217) rfl (zx_I (sp_iconst dL_law_2229 (by decide +kernel) rfl)) <| z_an
theorem dL_law_2230 : decode cL_law 2230 = .ok (.iadd, 1) := by decide +kernel
theorem dL_law_2231 : decode cL_law 2231 = .ok (.iaload, 1) := by decide +kernel
theorem dL_law_2232 : decode cL_law 2232 = .ok (.aload_n 0, 1) := by decide +kernel
theorem dL_law_2233 : decode cL_law 2233 = .ok (.iload 4, 2) := by decide +kernel
theorem dL_law_2235 : decode cL_law 2235 = .ok (.iconst 2, 1) := by decide +kernel
theorem dL_law_2236 : decode cL_law 2236 = .ok (.iadd, 1) := by decide +kernel
theorem dL_law_2237 : decode cL_law 2237 = .ok (.iaload, 1) := by decide +kernel
theorem dL_law_2238 : decode cL_law 2238 = .ok (.invokevirtual 307, 3) := by decide +kernel
theorem dL_law_2241 : decode cL_law 2241 = .ok (.istore 6, 2) := by decide +kernel
theorem dL_law_2243 : decode cL_law 2243 = .ok (.aload_n 2, 1) := by decide +kernel
theorem dL_law_2244 : decode cL_law 2244 = .ok (.invokevirtual 180, 3) := by decide +kernel
theorem dL_law_2247 : decode cL_law 2247 = .ok (.iload 5, 2) := by decide +kernel
theorem dL_law_2249 : decode cL_law 2249 = .ok (.if_icmp .eq 5, 3) := by decide +kernel
theorem dL_law_2252 : decode cL_law 2252 = .ok (.iconst 0, 1) := by decide +kernel
theorem dL_law_2253 : decode cL_law 2253 = .ok (.ireturn, 1) := by decide +kernel
theorem dL_law_2254 : decode cL_law 2254 = .ok (.iload 5, 2) := by decide +kernel
theorem dL_law_2256 : decode cL_law 2256 = .ok (.ifCond .ne 22, 3) := by decide +kernel
theorem dL_law_2259 : decode cL_law 2259 = .ok (.aload_n 3, 1) := by decide +kernel
theorem dL_law_2260 : decode cL_law 2260 = .ok (.iconst 0, 1) := by decide +kernel
theorem dL_law_2261 : decode cL_law 2261 = .ok (.laload, 1) := by decide +kernel
theorem dL_law_2262 : decode cL_law 2262 = .ok (.iload 6, 2) := by decide +kernel
theorem dL_law_2264 : decode cL_law 2264 = .ok (.ifCond .eq 7, 3) := by decide +kernel
theorem dL_law_2267 : decode cL_law 2267 = .ok (.lconst 1, 1) := by decide +kernel
theorem dL_law_2268 : decode cL_law 2268 = .ok (.goto 4, 3) := by decide +kernel
theorem dL_law_2271 : decode cL_law 2271 = .ok (.lconst 0, 1) := by decide +kernel
theorem dL_law_2272 : decode cL_law 2272 = .ok (.lcmp, 1) := by decide +kernel
theorem dL_law_2273 : decode cL_law 2273 = .ok (.ifCond .eq 5, 3) := by decide +kernel
theorem dL_law_2276 : decode cL_law 2276 = .ok (.iconst 0, 1) := by decide +kernel
theorem dL_law_2277 : decode cL_law 2277 = .ok (.ireturn, 1) := by decide +kernel
theorem dL_law_2278 : decode cL_law 2278 = .ok (.goto 1354, 3) := by decide +kernel
theorem dL_law_2281 : decode cL_law 2281 = .ok (.aload_n 1, 1) := by decide +kernel
theorem dL_law_2282 : decode cL_law 2282 = .ok (.aload_n 0, 1) := by decide +kernel
theorem dL_law_2283 : decode cL_law 2283 = .ok (.iload 4, 2) := by decide +kernel
theorem dL_law_2285 : decode cL_law 2285 = .ok (.iconst 1, 1) := by decide +kernel
theorem dL_law_2286 : decode cL_law 2286 = .ok (.iadd, 1) := by decide +kernel
theorem dL_law_2287 : decode cL_law 2287 = .ok (.iaload, 1) := by decide +kernel
theorem dL_law_2288 : decode cL_law 2288 = .ok (.aload_n 0, 1) := by decide +kernel
theorem dL_law_2289 : decode cL_law 2289 = .ok (.iload 4, 2) := by decide +kernel
theorem dL_law_2291 : decode cL_law 2291 = .ok (.iconst 2, 1) := by decide +kernel
theorem dL_law_2292 : decode cL_law 2292 = .ok (.iadd, 1) := by decide +kernel
theorem dL_law_2293 : decode cL_law 2293 = .ok (.iaload, 1) := by decide +kernel
theorem dL_law_2294 : decode cL_law 2294 = .ok (.aload_n 3, 1) := by decide +kernel
theorem dL_law_2295 : decode cL_law 2295 = .ok (.invokestatic 308, 3) := by decide +kernel
theorem dL_law_2298 : decode cL_law 2298 = .ok (.istore 5, 2) := by decide +kernel
theorem dL_law_2300 : decode cL_law 2300 = .ok (.aload_n 2, 1) := by decide +kernel
theorem dL_law_2301 : decode cL_law 2301 = .ok (.aload_n 0, 1) := by decide +kernel
theorem dL_law_2302 : decode cL_law 2302 = .ok (.iload 4, 2) := by decide +kernel
theorem dL_law_2304 : decode cL_law 2304 = .ok (.iconst 1, 1) := by decide +kernel
theorem dL_law_2305 : decode cL_law 2305 = .ok (.iadd, 1) := by decide +kernel
theorem dL_law_2306 : decode cL_law 2306 = .ok (.iaload, 1) := by decide +kernel
theorem dL_law_2307 : decode cL_law 2307 = .ok (.aload_n 0, 1) := by decide +kernel
theorem dL_law_2308 : decode cL_law 2308 = .ok (.iload 4, 2) := by decide +kernel
theorem dL_law_2310 : decode cL_law 2310 = .ok (.iconst 2, 1) := by decide +kernel
theorem dL_law_2311 : decode cL_law 2311 = .ok (.iadd, 1) := by decide +kernel
theorem dL_law_2312 : decode cL_law 2312 = .ok (.iaload, 1) := by decide +kernel
theorem dL_law_2313 : decode cL_law 2313 = .ok (.invokevirtual 310, 3) := by decide +kernel
theorem dL_law_2316 : decode cL_law 2316 = .ok (.istore 6, 2) := by decide +kernel
theorem dL_law_2318 : decode cL_law 2318 = .ok (.aload_n 2, 1) := by decide +kernel
theorem dL_law_2319 : decode cL_law 2319 = .ok (.invokevirtual 180, 3) := by decide +kernel
theorem dL_law_2322 : decode cL_law 2322 = .ok (.iload 5, 2) := by decide +kernel
theorem dL_law_2324 : decode cL_law 2324 = .ok (.if_icmp .eq 5, 3) := by decide +kernel
theorem dL_law_2327 : decode cL_law 2327 = .ok (.iconst 0, 1) := by decide +kernel
theorem dL_law_2328 : decode cL_law 2328 = .ok (.ireturn, 1) := by decide +kernel
theorem dL_law_2329 : decode cL_law 2329 = .ok (.iload 5, 2) := by decide +kernel
theorem tLaw19 {LL : Nat} {xs : Nat → Int32} {N : Nat} : z_AllE (zX1 LL xs N) 1217 (zLK19 LL xs N) :=
  z_ac (j := 1218) rfl (zx_I (sp_iadd dL_law_2230 rfl)) <|
  z_ac (j := 1219) rfl (zx_I (sp_sld dL_law_2231 rfl)) <|
  z_ac (j := 1220) rfl (zx_I (sp_aload_n (q := 0) dL_law_2232 rfl rfl)) <|
  z_ac (j := 1221) rfl (zx_I (sp_iload dL_law_2233 rfl)) <|
  z_ac (j := 1222) rfl (zx_I (sp_iconst dL_law_2235 (by decide +kernel) rfl)) <|
  z_ac (j := 1223) rfl (zx_I (sp_iadd dL_law_2236 rfl)) <|
  z_ac (j := 1224) rfl (zx_I (sp_sld dL_law_2237 rfl)) <|
  z_ac (j := 1225) rfl (zx_V dL_law_2238 wl_1748 qX9_distrusts (by decide +kernel) ⟨_, _, rfl⟩ rfl) <|
  z_ac (j := 1226) rfl (zx_I (sp_istoreK dL_law_2241 (by decide) (by decide) rfl)) <|
  z_ac (j := 1227) rfl (zx_I (sp_aload_n (q := 2) dL_law_2243 rfl rfl)) <|
  z_ac (j := 1228) rfl (zx_V dL_law_2244 wl_1416 qX9_thrown (by decide +kernel) ⟨_, _, rfl⟩ rfl) <|
  z_ac (j := 1229) rfl (zx_I (sp_iload dL_law_2247 rfl)) <|
  z_ac (j := 1230) rfl (zx_I (sp_icmp_eq dL_law_2249 rfl rfl)) <|
  z_ac (j := 1231) rfl (zx_I (sp_iconst dL_law_2252 (by decide +kernel) rfl)) <|
  z_ac (j := 1232) rfl (zx_R (sr_bool dL_law_2253 rfl)) <|
  z_ac (j := 1233) rfl (zx_I (sp_iload dL_law_2254 rfl)) <|
  z_ac (j := 1234) rfl (zx_I (sp_if_ne dL_law_2256 rfl rfl)) <|
  z_ac (j := 1235) rfl (zx_I (sp_aload_n (q := 3) dL_law_2259 rfl rfl)) <|
  z_ac (j := 1236) rfl (zx_I (sp_iconst dL_law_2260 (by decide +kernel) rfl)) <|
  z_ac (j := 1237) rfl (zx_I (sp_lald dL_law_2261 rfl)) <|
  z_ac (j := 1238) rfl (zx_I (sp_iload dL_law_2262 rfl)) <|
  z_ac (j := 1239) rfl (zx_I (sp_if_eq dL_law_2264 rfl rfl)) <|
  z_ac (j := 1240) rfl (zx_I (sp_lconst (n := 1) dL_law_2267 (by decide +kernel) rfl)) <|
  z_ac (j := 1241) rfl (zx_I (sp_goto dL_law_2268 rfl)) <|
  z_ac (j := 1242) rfl (zx_I (sp_lconst (n := 0) dL_law_2271 (by decide +kernel) rfl)) <|
  z_ac (j := 1243) rfl (zx_I (sp_lcmp dL_law_2272 rfl)) <|
  z_ac (j := 1244) rfl (zx_I (sp_if_eq dL_law_2273 rfl rfl)) <|
  z_ac (j := 1245) rfl (zx_I (sp_iconst dL_law_2276 (by decide +kernel) rfl)) <|
  z_ac (j := 1246) rfl (zx_R (sr_bool dL_law_2277 rfl)) <|
  z_ac (j := 1247) rfl (zx_I (sp_goto dL_law_2278 rfl)) <|
  z_ac (j := 1248) rfl (zx_I (sp_aload_n (q := 1) dL_law_2281 rfl rfl)) <|
  z_ac (j := 1249) rfl (zx_I (sp_aload_n (q := 0) dL_law_2282 rfl rfl)) <|
  z_ac (j := 1250) rfl (zx_I (sp_iload dL_law_2283 rfl)) <|
  z_ac (j := 1251) rfl (zx_I (sp_iconst dL_law_2285 (by decide +kernel) rfl)) <|
  z_ac (j := 1252) rfl (zx_I (sp_iadd dL_law_2286 rfl)) <|
  z_ac (j := 1253) rfl (zx_I (sp_sld dL_law_2287 rfl)) <|
  z_ac (j := 1254) rfl (zx_I (sp_aload_n (q := 0) dL_law_2288 rfl rfl)) <|
  z_ac (j := 1255) rfl (zx_I (sp_iload dL_law_2289 rfl)) <|
  z_ac (j := 1256) rfl (zx_I (sp_iconst dL_law_2291 (by decide +kernel) rfl)) <|
  z_ac (j := 1257) rfl (zx_I (sp_iadd dL_law_2292 rfl)) <|
  z_ac (j := 1258) rfl (zx_I (sp_sld dL_law_2293 rfl)) <|
  z_ac (j := 1259) rfl (zx_I (sp_aload_n (q := 3) dL_law_2294 rfl rfl)) <|
  z_ac (j := 1260) rfl (zx_W dL_law_2295 wl_1154 qL_sees (by decide +kernel) rfl) <|
  z_ac (j := 1261) rfl (zx_I (sp_istore dL_law_2298 (by decide) (fun j hj => by have e : j = 4 := (by omega); subst e; rfl) rfl)) <|
  z_ac (j := 1262) rfl (zx_I (sp_aload_n (q := 2) dL_law_2300 rfl rfl)) <|
  z_ac (j := 1263) rfl (zx_I (sp_aload_n (q := 0) dL_law_2301 rfl rfl)) <|
  z_ac (j := 1264) rfl (zx_I (sp_iload dL_law_2302 rfl)) <|
  z_ac (j := 1265) rfl (zx_I (sp_iconst dL_law_2304 (by decide +kernel) rfl)) <|
  z_ac (j := 1266) rfl (zx_I (sp_iadd dL_law_2305 rfl)) <|
  z_ac (j := 1267) rfl (zx_I (sp_sld dL_law_2306 rfl)) <|
  z_ac (j := 1268) rfl (zx_I (sp_aload_n (q := 0) dL_law_2307 rfl rfl)) <|
  z_ac (j := 1269) rfl (zx_I (sp_iload dL_law_2308 rfl)) <|
  z_ac (j := 1270) rfl (zx_I (sp_iconst dL_law_2310 (by decide +kernel) rfl)) <|
  z_ac (j := 1271) rfl (zx_I (sp_iadd dL_law_2311 rfl)) <|
  z_ac (j := 1272) rfl (zx_I (sp_sld dL_law_2312 rfl)) <|
  z_ac (j := 1273) rfl (zx_V dL_law_2313 wl_1752 qX9_sees (by decide +kernel) ⟨_, _, rfl⟩ rfl) <|
  z_ac (j := 1274) rfl (zx_I (sp_istoreK dL_law_2316 (by decide) (by decide) rfl)) <|
  z_ac (j := 1275) rfl (zx_I (sp_aload_n (q := 2) dL_law_2318 rfl rfl)) <|
  z_ac (j := 1276) rfl (zx_V dL_law_2319 wl_1416 qX9_thrown (by decide +kernel) ⟨_, _, rfl⟩ rfl) <|
  z_ac (j := 1277) rfl (zx_I (sp_iload dL_law_2322 rfl)) <|
  z_ac (j := 1278) rfl (zx_I (sp_icmp_eq dL_law_2324 rfl rfl)) <|
  z_ac (j := 1279) rfl (zx_I (sp_iconst dL_law_2327 (by decide +kernel) rfl)) <|
  z_ac (j := 1280) rfl (zx_R (sr_bool dL_law_2328 rfl)) <|
  z_ac (j := 1281) rfl (zx_I (sp_iload dL_law_2329 rfl)) <| z_an
theorem dL_law_2331 : decode cL_law 2331 = .ok (.ifCond .ne 22, 3) := by decide +kernel
theorem dL_law_2334 : decode cL_law 2334 = .ok (.aload_n 3, 1) := by decide +kernel
theorem dL_law_2335 : decode cL_law 2335 = .ok (.iconst 0, 1) := by decide +kernel
theorem dL_law_2336 : decode cL_law 2336 = .ok (.laload, 1) := by decide +kernel
theorem dL_law_2337 : decode cL_law 2337 = .ok (.iload 6, 2) := by decide +kernel
theorem dL_law_2339 : decode cL_law 2339 = .ok (.ifCond .eq 7, 3) := by decide +kernel
theorem dL_law_2342 : decode cL_law 2342 = .ok (.lconst 1, 1) := by decide +kernel
theorem dL_law_2343 : decode cL_law 2343 = .ok (.goto 4, 3) := by decide +kernel
theorem dL_law_2346 : decode cL_law 2346 = .ok (.lconst 0, 1) := by decide +kernel
theorem dL_law_2347 : decode cL_law 2347 = .ok (.lcmp, 1) := by decide +kernel
theorem dL_law_2348 : decode cL_law 2348 = .ok (.ifCond .eq 5, 3) := by decide +kernel
theorem dL_law_2351 : decode cL_law 2351 = .ok (.iconst 0, 1) := by decide +kernel
theorem dL_law_2352 : decode cL_law 2352 = .ok (.ireturn, 1) := by decide +kernel
theorem dL_law_2353 : decode cL_law 2353 = .ok (.goto 1279, 3) := by decide +kernel
theorem dL_law_2356 : decode cL_law 2356 = .ok (.aload_n 1, 1) := by decide +kernel
theorem dL_law_2357 : decode cL_law 2357 = .ok (.aload_n 0, 1) := by decide +kernel
theorem dL_law_2358 : decode cL_law 2358 = .ok (.iload 4, 2) := by decide +kernel
theorem dL_law_2360 : decode cL_law 2360 = .ok (.iconst 1, 1) := by decide +kernel
theorem dL_law_2361 : decode cL_law 2361 = .ok (.iadd, 1) := by decide +kernel
theorem dL_law_2362 : decode cL_law 2362 = .ok (.iaload, 1) := by decide +kernel
theorem dL_law_2363 : decode cL_law 2363 = .ok (.aload_n 3, 1) := by decide +kernel
theorem dL_law_2364 : decode cL_law 2364 = .ok (.invokestatic 311, 3) := by decide +kernel
theorem dL_law_2367 : decode cL_law 2367 = .ok (.istore 5, 2) := by decide +kernel
theorem dL_law_2369 : decode cL_law 2369 = .ok (.aload_n 2, 1) := by decide +kernel
theorem dL_law_2370 : decode cL_law 2370 = .ok (.aload_n 0, 1) := by decide +kernel
theorem dL_law_2371 : decode cL_law 2371 = .ok (.iload 4, 2) := by decide +kernel
theorem dL_law_2373 : decode cL_law 2373 = .ok (.iconst 1, 1) := by decide +kernel
theorem dL_law_2374 : decode cL_law 2374 = .ok (.iadd, 1) := by decide +kernel
theorem dL_law_2375 : decode cL_law 2375 = .ok (.iaload, 1) := by decide +kernel
theorem dL_law_2376 : decode cL_law 2376 = .ok (.invokevirtual 313, 3) := by decide +kernel
theorem dL_law_2379 : decode cL_law 2379 = .ok (.istore 6, 2) := by decide +kernel
theorem dL_law_2381 : decode cL_law 2381 = .ok (.aload_n 2, 1) := by decide +kernel
theorem dL_law_2382 : decode cL_law 2382 = .ok (.invokevirtual 180, 3) := by decide +kernel
theorem dL_law_2385 : decode cL_law 2385 = .ok (.iload 5, 2) := by decide +kernel
theorem dL_law_2387 : decode cL_law 2387 = .ok (.if_icmp .eq 5, 3) := by decide +kernel
theorem dL_law_2390 : decode cL_law 2390 = .ok (.iconst 0, 1) := by decide +kernel
theorem dL_law_2391 : decode cL_law 2391 = .ok (.ireturn, 1) := by decide +kernel
theorem dL_law_2392 : decode cL_law 2392 = .ok (.iload 5, 2) := by decide +kernel
theorem dL_law_2394 : decode cL_law 2394 = .ok (.ifCond .ne 15, 3) := by decide +kernel
theorem dL_law_2397 : decode cL_law 2397 = .ok (.aload_n 3, 1) := by decide +kernel
theorem dL_law_2398 : decode cL_law 2398 = .ok (.iconst 0, 1) := by decide +kernel
theorem dL_law_2399 : decode cL_law 2399 = .ok (.laload, 1) := by decide +kernel
theorem dL_law_2400 : decode cL_law 2400 = .ok (.iload 6, 2) := by decide +kernel
theorem dL_law_2402 : decode cL_law 2402 = .ok (.i2l, 1) := by decide +kernel
theorem dL_law_2403 : decode cL_law 2403 = .ok (.lcmp, 1) := by decide +kernel
theorem dL_law_2404 : decode cL_law 2404 = .ok (.ifCond .eq 5, 3) := by decide +kernel
theorem dL_law_2407 : decode cL_law 2407 = .ok (.iconst 0, 1) := by decide +kernel
theorem dL_law_2408 : decode cL_law 2408 = .ok (.ireturn, 1) := by decide +kernel
theorem dL_law_2409 : decode cL_law 2409 = .ok (.goto 1223, 3) := by decide +kernel
theorem dL_law_2412 : decode cL_law 2412 = .ok (.aload_n 1, 1) := by decide +kernel
theorem dL_law_2413 : decode cL_law 2413 = .ok (.invokevirtual 314, 3) := by decide +kernel
theorem dL_law_2416 : decode cL_law 2416 = .ok (.aload_n 2, 1) := by decide +kernel
theorem dL_law_2417 : decode cL_law 2417 = .ok (.invokevirtual 317, 3) := by decide +kernel
theorem dL_law_2420 : decode cL_law 2420 = .ok (.if_icmp .eq 1212, 3) := by decide +kernel
theorem dL_law_2423 : decode cL_law 2423 = .ok (.iconst 0, 1) := by decide +kernel
theorem dL_law_2424 : decode cL_law 2424 = .ok (.ireturn, 1) := by decide +kernel
theorem dL_law_2425 : decode cL_law 2425 = .ok (.aload_n 1, 1) := by decide +kernel
theorem dL_law_2426 : decode cL_law 2426 = .ok (.invokevirtual 318, 3) := by decide +kernel
theorem dL_law_2429 : decode cL_law 2429 = .ok (.aload_n 2, 1) := by decide +kernel
theorem dL_law_2430 : decode cL_law 2430 = .ok (.invokevirtual 321, 3) := by decide +kernel
theorem dL_law_2433 : decode cL_law 2433 = .ok (.if_icmp .eq 1199, 3) := by decide +kernel
theorem dL_law_2436 : decode cL_law 2436 = .ok (.iconst 0, 1) := by decide +kernel
theorem dL_law_2437 : decode cL_law 2437 = .ok (.ireturn, 1) := by decide +kernel
theorem dL_law_2438 : decode cL_law 2438 = .ok (.aload_n 1, 1) := by decide +kernel
theorem tLaw20 {LL : Nat} {xs : Nat → Int32} {N : Nat} : z_AllE (zX1 LL xs N) 1281 (zLK20 LL xs N) :=
  z_ac (j := 1282) rfl (zx_I (sp_if_ne dL_law_2331 rfl rfl)) <|
  z_ac (j := 1283) rfl (zx_I (sp_aload_n (q := 3) dL_law_2334 rfl rfl)) <|
  z_ac (j := 1284) rfl (zx_I (sp_iconst dL_law_2335 (by decide +kernel) rfl)) <|
  z_ac (j := 1285) rfl (zx_I (sp_lald dL_law_2336 rfl)) <|
  z_ac (j := 1286) rfl (zx_I (sp_iload dL_law_2337 rfl)) <|
  z_ac (j := 1287) rfl (zx_I (sp_if_eq dL_law_2339 rfl rfl)) <|
  z_ac (j := 1288) rfl (zx_I (sp_lconst (n := 1) dL_law_2342 (by decide +kernel) rfl)) <|
  z_ac (j := 1289) rfl (zx_I (sp_goto dL_law_2343 rfl)) <|
  z_ac (j := 1290) rfl (zx_I (sp_lconst (n := 0) dL_law_2346 (by decide +kernel) rfl)) <|
  z_ac (j := 1291) rfl (zx_I (sp_lcmp dL_law_2347 rfl)) <|
  z_ac (j := 1292) rfl (zx_I (sp_if_eq dL_law_2348 rfl rfl)) <|
  z_ac (j := 1293) rfl (zx_I (sp_iconst dL_law_2351 (by decide +kernel) rfl)) <|
  z_ac (j := 1294) rfl (zx_R (sr_bool dL_law_2352 rfl)) <|
  z_ac (j := 1295) rfl (zx_I (sp_goto dL_law_2353 rfl)) <|
  z_ac (j := 1296) rfl (zx_I (sp_aload_n (q := 1) dL_law_2356 rfl rfl)) <|
  z_ac (j := 1297) rfl (zx_I (sp_aload_n (q := 0) dL_law_2357 rfl rfl)) <|
  z_ac (j := 1298) rfl (zx_I (sp_iload dL_law_2358 rfl)) <|
  z_ac (j := 1299) rfl (zx_I (sp_iconst dL_law_2360 (by decide +kernel) rfl)) <|
  z_ac (j := 1300) rfl (zx_I (sp_iadd dL_law_2361 rfl)) <|
  z_ac (j := 1301) rfl (zx_I (sp_sld dL_law_2362 rfl)) <|
  z_ac (j := 1302) rfl (zx_I (sp_aload_n (q := 3) dL_law_2363 rfl rfl)) <|
  z_ac (j := 1303) rfl (zx_W dL_law_2364 wl_1162 qL_nearestLight (by decide +kernel) rfl) <|
  z_ac (j := 1304) rfl (zx_I (sp_istore dL_law_2367 (by decide) (fun j hj => by have e : j = 4 := (by omega); subst e; rfl) rfl)) <|
  z_ac (j := 1305) rfl (zx_I (sp_aload_n (q := 2) dL_law_2369 rfl rfl)) <|
  z_ac (j := 1306) rfl (zx_I (sp_aload_n (q := 0) dL_law_2370 rfl rfl)) <|
  z_ac (j := 1307) rfl (zx_I (sp_iload dL_law_2371 rfl)) <|
  z_ac (j := 1308) rfl (zx_I (sp_iconst dL_law_2373 (by decide +kernel) rfl)) <|
  z_ac (j := 1309) rfl (zx_I (sp_iadd dL_law_2374 rfl)) <|
  z_ac (j := 1310) rfl (zx_I (sp_sld dL_law_2375 rfl)) <|
  z_ac (j := 1311) rfl (zx_V dL_law_2376 wl_1768 qX9_nearestLight (by decide +kernel) ⟨_, _, rfl⟩ rfl) <|
  z_ac (j := 1312) rfl (zx_I (sp_istoreK dL_law_2379 (by decide) (by decide) rfl)) <|
  z_ac (j := 1313) rfl (zx_I (sp_aload_n (q := 2) dL_law_2381 rfl rfl)) <|
  z_ac (j := 1314) rfl (zx_V dL_law_2382 wl_1416 qX9_thrown (by decide +kernel) ⟨_, _, rfl⟩ rfl) <|
  z_ac (j := 1315) rfl (zx_I (sp_iload dL_law_2385 rfl)) <|
  z_ac (j := 1316) rfl (zx_I (sp_icmp_eq dL_law_2387 rfl rfl)) <|
  z_ac (j := 1317) rfl (zx_I (sp_iconst dL_law_2390 (by decide +kernel) rfl)) <|
  z_ac (j := 1318) rfl (zx_R (sr_bool dL_law_2391 rfl)) <|
  z_ac (j := 1319) rfl (zx_I (sp_iload dL_law_2392 rfl)) <|
  z_ac (j := 1320) rfl (zx_I (sp_if_ne dL_law_2394 rfl rfl)) <|
  z_ac (j := 1321) rfl (zx_I (sp_aload_n (q := 3) dL_law_2397 rfl rfl)) <|
  z_ac (j := 1322) rfl (zx_I (sp_iconst dL_law_2398 (by decide +kernel) rfl)) <|
  z_ac (j := 1323) rfl (zx_I (sp_lald dL_law_2399 rfl)) <|
  z_ac (j := 1324) rfl (zx_I (sp_iload dL_law_2400 rfl)) <|
  z_ac (j := 1325) rfl (zx_I (sp_i2l dL_law_2402 rfl)) <|
  z_ac (j := 1326) rfl (zx_I (sp_lcmp dL_law_2403 rfl)) <|
  z_ac (j := 1327) rfl (zx_I (sp_if_eq dL_law_2404 rfl rfl)) <|
  z_ac (j := 1328) rfl (zx_I (sp_iconst dL_law_2407 (by decide +kernel) rfl)) <|
  z_ac (j := 1329) rfl (zx_R (sr_bool dL_law_2408 rfl)) <|
  z_ac (j := 1330) rfl (zx_I (sp_goto dL_law_2409 rfl)) <|
  z_ac (j := 1331) rfl (zx_I (sp_aload_n (q := 1) dL_law_2412 rfl rfl)) <|
  z_ac (j := 1332) rfl (zx_V dL_law_2413 wl_594 qX8_walkingCount (by decide +kernel) ⟨_, _, rfl⟩ rfl) <|
  z_ac (j := 1333) rfl (zx_I (sp_aload_n (q := 2) dL_law_2416 rfl rfl)) <|
  z_ac (j := 1334) rfl (zx_V dL_law_2417 wl_1778 qX9_walkingCount (by decide +kernel) ⟨_, _, rfl⟩ rfl) <|
  z_ac (j := 1335) rfl (zx_I (sp_icmp_eq dL_law_2420 rfl rfl)) <|
  z_ac (j := 1336) rfl (zx_I (sp_iconst dL_law_2423 (by decide +kernel) rfl)) <|
  z_ac (j := 1337) rfl (zx_R (sr_bool dL_law_2424 rfl)) <|
  z_ac (j := 1338) rfl (zx_I (sp_aload_n (q := 1) dL_law_2425 rfl rfl)) <|
  z_ac (j := 1339) rfl (zx_V dL_law_2426 wl_602 qX8_arrivedCount (by decide +kernel) ⟨_, _, rfl⟩ rfl) <|
  z_ac (j := 1340) rfl (zx_I (sp_aload_n (q := 2) dL_law_2429 rfl rfl)) <|
  z_ac (j := 1341) rfl (zx_V dL_law_2430 wl_1785 qX9_arrivedCount (by decide +kernel) ⟨_, _, rfl⟩ rfl) <|
  z_ac (j := 1342) rfl (zx_I (sp_icmp_eq dL_law_2433 rfl rfl)) <|
  z_ac (j := 1343) rfl (zx_I (sp_iconst dL_law_2436 (by decide +kernel) rfl)) <|
  z_ac (j := 1344) rfl (zx_R (sr_bool dL_law_2437 rfl)) <|
  z_ac (j := 1345) rfl (zx_I (sp_aload_n (q := 1) dL_law_2438 rfl rfl)) <| z_an
theorem dL_law_2439 : decode cL_law 2439 = .ok (.invokevirtual 322, 3) := by decide +kernel
theorem dL_law_2442 : decode cL_law 2442 = .ok (.aload_n 2, 1) := by decide +kernel
theorem dL_law_2443 : decode cL_law 2443 = .ok (.invokevirtual 325, 3) := by decide +kernel
theorem dL_law_2446 : decode cL_law 2446 = .ok (.if_icmp .eq 1186, 3) := by decide +kernel
theorem dL_law_2449 : decode cL_law 2449 = .ok (.iconst 0, 1) := by decide +kernel
theorem dL_law_2450 : decode cL_law 2450 = .ok (.ireturn, 1) := by decide +kernel
theorem dL_law_2451 : decode cL_law 2451 = .ok (.aload_n 1, 1) := by decide +kernel
theorem dL_law_2452 : decode cL_law 2452 = .ok (.invokevirtual 326, 3) := by decide +kernel
theorem dL_law_2455 : decode cL_law 2455 = .ok (.f2d, 1) := by decide +kernel
theorem dL_law_2456 : decode cL_law 2456 = .ok (.dstore 5, 2) := by decide +kernel
theorem dL_law_2458 : decode cL_law 2458 = .ok (.aload_n 2, 1) := by decide +kernel
theorem dL_law_2459 : decode cL_law 2459 = .ok (.invokevirtual 330, 3) := by decide +kernel
theorem dL_law_2462 : decode cL_law 2462 = .ok (.f2d, 1) := by decide +kernel
theorem dL_law_2463 : decode cL_law 2463 = .ok (.dstore 7, 2) := by decide +kernel
theorem dL_law_2465 : decode cL_law 2465 = .ok (.dload 5, 2) := by decide +kernel
theorem dL_law_2467 : decode cL_law 2467 = .ok (.dload 7, 2) := by decide +kernel
theorem dL_law_2469 : decode cL_law 2469 = .ok (.dcmp .l, 1) := by decide +kernel
theorem dL_law_2470 : decode cL_law 2470 = .ok (.ifCond .eq 21, 3) := by decide +kernel
theorem dL_law_2473 : decode cL_law 2473 = .ok (.dload 5, 2) := by decide +kernel
theorem dL_law_2475 : decode cL_law 2475 = .ok (.dload 5, 2) := by decide +kernel
theorem dL_law_2477 : decode cL_law 2477 = .ok (.dcmp .l, 1) := by decide +kernel
theorem dL_law_2478 : decode cL_law 2478 = .ok (.ifCond .eq 11, 3) := by decide +kernel
theorem dL_law_2481 : decode cL_law 2481 = .ok (.dload 7, 2) := by decide +kernel
theorem dL_law_2483 : decode cL_law 2483 = .ok (.dload 7, 2) := by decide +kernel
theorem dL_law_2485 : decode cL_law 2485 = .ok (.dcmp .l, 1) := by decide +kernel
theorem dL_law_2486 : decode cL_law 2486 = .ok (.ifCond .ne 5, 3) := by decide +kernel
theorem dL_law_2489 : decode cL_law 2489 = .ok (.iconst 0, 1) := by decide +kernel
theorem dL_law_2490 : decode cL_law 2490 = .ok (.ireturn, 1) := by decide +kernel
theorem dL_law_2491 : decode cL_law 2491 = .ok (.goto 1141, 3) := by decide +kernel
theorem dL_law_2494 : decode cL_law 2494 = .ok (.aload_n 1, 1) := by decide +kernel
theorem dL_law_2495 : decode cL_law 2495 = .ok (.invokevirtual 331, 3) := by decide +kernel
theorem dL_law_2498 : decode cL_law 2498 = .ok (.dstore 5, 2) := by decide +kernel
theorem dL_law_2500 : decode cL_law 2500 = .ok (.aload_n 2, 1) := by decide +kernel
theorem dL_law_2501 : decode cL_law 2501 = .ok (.invokevirtual 335, 3) := by decide +kernel
theorem dL_law_2504 : decode cL_law 2504 = .ok (.dstore 7, 2) := by decide +kernel
theorem dL_law_2506 : decode cL_law 2506 = .ok (.dload 5, 2) := by decide +kernel
theorem dL_law_2508 : decode cL_law 2508 = .ok (.dload 7, 2) := by decide +kernel
theorem dL_law_2510 : decode cL_law 2510 = .ok (.dcmp .l, 1) := by decide +kernel
theorem dL_law_2511 : decode cL_law 2511 = .ok (.ifCond .eq 21, 3) := by decide +kernel
theorem dL_law_2514 : decode cL_law 2514 = .ok (.dload 5, 2) := by decide +kernel
theorem dL_law_2516 : decode cL_law 2516 = .ok (.dload 5, 2) := by decide +kernel
theorem dL_law_2518 : decode cL_law 2518 = .ok (.dcmp .l, 1) := by decide +kernel
theorem dL_law_2519 : decode cL_law 2519 = .ok (.ifCond .eq 11, 3) := by decide +kernel
theorem dL_law_2522 : decode cL_law 2522 = .ok (.dload 7, 2) := by decide +kernel
theorem dL_law_2524 : decode cL_law 2524 = .ok (.dload 7, 2) := by decide +kernel
theorem dL_law_2526 : decode cL_law 2526 = .ok (.dcmp .l, 1) := by decide +kernel
theorem dL_law_2527 : decode cL_law 2527 = .ok (.ifCond .ne 5, 3) := by decide +kernel
theorem dL_law_2530 : decode cL_law 2530 = .ok (.iconst 0, 1) := by decide +kernel
theorem dL_law_2531 : decode cL_law 2531 = .ok (.ireturn, 1) := by decide +kernel
theorem dL_law_2532 : decode cL_law 2532 = .ok (.goto 1100, 3) := by decide +kernel
theorem dL_law_2535 : decode cL_law 2535 = .ok (.aload_n 1, 1) := by decide +kernel
theorem dL_law_2536 : decode cL_law 2536 = .ok (.aload_n 0, 1) := by decide +kernel
theorem dL_law_2537 : decode cL_law 2537 = .ok (.iload 4, 2) := by decide +kernel
theorem dL_law_2539 : decode cL_law 2539 = .ok (.iconst 1, 1) := by decide +kernel
theorem dL_law_2540 : decode cL_law 2540 = .ok (.iadd, 1) := by decide +kernel
theorem dL_law_2541 : decode cL_law 2541 = .ok (.iaload, 1) := by decide +kernel
theorem dL_law_2542 : decode cL_law 2542 = .ok (.aload_n 3, 1) := by decide +kernel
theorem dL_law_2543 : decode cL_law 2543 = .ok (.invokestatic 336, 3) := by decide +kernel
theorem dL_law_2546 : decode cL_law 2546 = .ok (.istore 5, 2) := by decide +kernel
theorem dL_law_2548 : decode cL_law 2548 = .ok (.aload_n 2, 1) := by decide +kernel
theorem dL_law_2549 : decode cL_law 2549 = .ok (.aload_n 0, 1) := by decide +kernel
theorem dL_law_2550 : decode cL_law 2550 = .ok (.iload 4, 2) := by decide +kernel
theorem dL_law_2552 : decode cL_law 2552 = .ok (.iconst 1, 1) := by decide +kernel
theorem dL_law_2553 : decode cL_law 2553 = .ok (.iadd, 1) := by decide +kernel
theorem tLaw21 {LL : Nat} {xs : Nat → Int32} {N : Nat} : z_AllE (zX1 LL xs N) 1345 (zLK21 LL xs N) :=
  z_ac (j := 1346) rfl (zx_V dL_law_2439 wl_606 qX8_sunkCount (by decide +kernel) ⟨_, _, rfl⟩ rfl) <|
  z_ac (j := 1347) rfl (zx_I (sp_aload_n (q := 2) dL_law_2442 rfl rfl)) <|
  z_ac (j := 1348) rfl (zx_V dL_law_2443 wl_1789 qX9_sunkCount (by decide +kernel) ⟨_, _, rfl⟩ rfl) <|
  z_ac (j := 1349) rfl (zx_I (sp_icmp_eq dL_law_2446 rfl rfl)) <|
  z_ac (j := 1350) rfl (zx_I (sp_iconst dL_law_2449 (by decide +kernel) rfl)) <|
  z_ac (j := 1351) rfl (zx_R (sr_bool dL_law_2450 rfl)) <|
  z_ac (j := 1352) rfl (zx_I (sp_aload_n (q := 1) dL_law_2451 rfl rfl)) <|
  z_ac (j := 1353) rfl (zx_V dL_law_2452 wl_610 qX8_arrivedShare (by decide +kernel) ⟨_, _, rfl⟩ rfl) <|
  z_ac (j := 1354) rfl (zx_I (sp_f2d dL_law_2455 rfl)) <|
  z_ac (j := 1355) rfl (zx_I (sp_dstore dL_law_2456 (by decide) rfl (fun j hj => by have e : j = 4 := (by omega); subst e; rfl) rfl)) <|
  z_ac (j := 1356) rfl (zx_I (sp_aload_n (q := 2) dL_law_2458 rfl rfl)) <|
  z_ac (j := 1357) rfl (zx_V dL_law_2459 wl_1793 qX9_arrivedShare (by decide +kernel) ⟨_, _, rfl⟩ rfl) <|
  z_ac (j := 1358) rfl (zx_I (sp_f2d dL_law_2462 rfl)) <|
  z_ac (j := 1359) rfl (zx_I (sp_dstore dL_law_2463 (by decide) rfl (fun j hj => by have e : j = 6 := (by omega); subst e; rfl) rfl)) <|
  z_ac (j := 1360) rfl (zx_I (sp_dload dL_law_2465 rfl)) <|
  z_ac (j := 1361) rfl (zx_I (sp_dload dL_law_2467 rfl)) <|
  z_ac (j := 1362) rfl (zx_I (sp_dcmp dL_law_2469 rfl)) <|
  z_ac (j := 1363) rfl (zx_I (sp_if_eq dL_law_2470 rfl rfl)) <|
  z_ac (j := 1364) rfl (zx_I (sp_dload dL_law_2473 rfl)) <|
  z_ac (j := 1365) rfl (zx_I (sp_dload dL_law_2475 rfl)) <|
  z_ac (j := 1366) rfl (zx_I (sp_dcmp dL_law_2477 rfl)) <|
  z_ac (j := 1367) rfl (zx_I (sp_if_eq dL_law_2478 rfl rfl)) <|
  z_ac (j := 1368) rfl (zx_I (sp_dload dL_law_2481 rfl)) <|
  z_ac (j := 1369) rfl (zx_I (sp_dload dL_law_2483 rfl)) <|
  z_ac (j := 1370) rfl (zx_I (sp_dcmp dL_law_2485 rfl)) <|
  z_ac (j := 1371) rfl (zx_I (sp_if_ne dL_law_2486 rfl rfl)) <|
  z_ac (j := 1372) rfl (zx_I (sp_iconst dL_law_2489 (by decide +kernel) rfl)) <|
  z_ac (j := 1373) rfl (zx_R (sr_bool dL_law_2490 rfl)) <|
  z_ac (j := 1374) rfl (zx_I (sp_goto dL_law_2491 rfl)) <|
  z_ac (j := 1375) rfl (zx_I (sp_aload_n (q := 1) dL_law_2494 rfl rfl)) <|
  z_ac (j := 1376) rfl (zx_V dL_law_2495 wl_614 qX8_meanSteps (by decide +kernel) ⟨_, _, rfl⟩ rfl) <|
  z_ac (j := 1377) rfl (zx_I (sp_dstore dL_law_2498 (by decide) rfl (fun j hj => by have e : j = 4 := (by omega); subst e; rfl) rfl)) <|
  z_ac (j := 1378) rfl (zx_I (sp_aload_n (q := 2) dL_law_2500 rfl rfl)) <|
  z_ac (j := 1379) rfl (zx_V dL_law_2501 wl_1797 qX9_meanSteps (by decide +kernel) ⟨_, _, rfl⟩ rfl) <|
  z_ac (j := 1380) rfl (zx_I (sp_dstore dL_law_2504 (by decide) rfl (fun j hj => by have e : j = 6 := (by omega); subst e; rfl) rfl)) <|
  z_ac (j := 1381) rfl (zx_I (sp_dload dL_law_2506 rfl)) <|
  z_ac (j := 1382) rfl (zx_I (sp_dload dL_law_2508 rfl)) <|
  z_ac (j := 1383) rfl (zx_I (sp_dcmp dL_law_2510 rfl)) <|
  z_ac (j := 1384) rfl (zx_I (sp_if_eq dL_law_2511 rfl rfl)) <|
  z_ac (j := 1385) rfl (zx_I (sp_dload dL_law_2514 rfl)) <|
  z_ac (j := 1386) rfl (zx_I (sp_dload dL_law_2516 rfl)) <|
  z_ac (j := 1387) rfl (zx_I (sp_dcmp dL_law_2518 rfl)) <|
  z_ac (j := 1388) rfl (zx_I (sp_if_eq dL_law_2519 rfl rfl)) <|
  z_ac (j := 1389) rfl (zx_I (sp_dload dL_law_2522 rfl)) <|
  z_ac (j := 1390) rfl (zx_I (sp_dload dL_law_2524 rfl)) <|
  z_ac (j := 1391) rfl (zx_I (sp_dcmp dL_law_2526 rfl)) <|
  z_ac (j := 1392) rfl (zx_I (sp_if_ne dL_law_2527 rfl rfl)) <|
  z_ac (j := 1393) rfl (zx_I (sp_iconst dL_law_2530 (by decide +kernel) rfl)) <|
  z_ac (j := 1394) rfl (zx_R (sr_bool dL_law_2531 rfl)) <|
  z_ac (j := 1395) rfl (zx_I (sp_goto dL_law_2532 rfl)) <|
  z_ac (j := 1396) rfl (zx_I (sp_aload_n (q := 1) dL_law_2535 rfl rfl)) <|
  z_ac (j := 1397) rfl (zx_I (sp_aload_n (q := 0) dL_law_2536 rfl rfl)) <|
  z_ac (j := 1398) rfl (zx_I (sp_iload dL_law_2537 rfl)) <|
  z_ac (j := 1399) rfl (zx_I (sp_iconst dL_law_2539 (by decide +kernel) rfl)) <|
  z_ac (j := 1400) rfl (zx_I (sp_iadd dL_law_2540 rfl)) <|
  z_ac (j := 1401) rfl (zx_I (sp_sld dL_law_2541 rfl)) <|
  z_ac (j := 1402) rfl (zx_I (sp_aload_n (q := 3) dL_law_2542 rfl rfl)) <|
  z_ac (j := 1403) rfl (zx_W dL_law_2543 wl_1171 qL_ticksUntilDone (by decide +kernel) rfl) <|
  z_ac (j := 1404) rfl (zx_I (sp_istore dL_law_2546 (by decide) (fun j hj => by have e : j = 4 := (by omega); subst e; rfl) rfl)) <|
  z_ac (j := 1405) rfl (zx_I (sp_aload_n (q := 2) dL_law_2548 rfl rfl)) <|
  z_ac (j := 1406) rfl (zx_I (sp_aload_n (q := 0) dL_law_2549 rfl rfl)) <|
  z_ac (j := 1407) rfl (zx_I (sp_iload dL_law_2550 rfl)) <|
  z_ac (j := 1408) rfl (zx_I (sp_iconst dL_law_2552 (by decide +kernel) rfl)) <|
  z_ac (j := 1409) rfl (zx_I (sp_iadd dL_law_2553 rfl)) <| z_an
theorem dL_law_2554 : decode cL_law 2554 = .ok (.iaload, 1) := by decide +kernel
theorem dL_law_2555 : decode cL_law 2555 = .ok (.invokevirtual 338, 3) := by decide +kernel
theorem dL_law_2558 : decode cL_law 2558 = .ok (.istore 6, 2) := by decide +kernel
theorem dL_law_2560 : decode cL_law 2560 = .ok (.aload_n 2, 1) := by decide +kernel
theorem dL_law_2561 : decode cL_law 2561 = .ok (.invokevirtual 180, 3) := by decide +kernel
theorem dL_law_2564 : decode cL_law 2564 = .ok (.iload 5, 2) := by decide +kernel
theorem dL_law_2566 : decode cL_law 2566 = .ok (.if_icmp .eq 5, 3) := by decide +kernel
theorem dL_law_2569 : decode cL_law 2569 = .ok (.iconst 0, 1) := by decide +kernel
theorem dL_law_2570 : decode cL_law 2570 = .ok (.ireturn, 1) := by decide +kernel
theorem dL_law_2571 : decode cL_law 2571 = .ok (.iload 5, 2) := by decide +kernel
theorem dL_law_2573 : decode cL_law 2573 = .ok (.ifCond .ne 15, 3) := by decide +kernel
theorem dL_law_2576 : decode cL_law 2576 = .ok (.aload_n 3, 1) := by decide +kernel
theorem dL_law_2577 : decode cL_law 2577 = .ok (.iconst 0, 1) := by decide +kernel
theorem dL_law_2578 : decode cL_law 2578 = .ok (.laload, 1) := by decide +kernel
theorem dL_law_2579 : decode cL_law 2579 = .ok (.iload 6, 2) := by decide +kernel
theorem dL_law_2581 : decode cL_law 2581 = .ok (.i2l, 1) := by decide +kernel
theorem dL_law_2582 : decode cL_law 2582 = .ok (.lcmp, 1) := by decide +kernel
theorem dL_law_2583 : decode cL_law 2583 = .ok (.ifCond .eq 5, 3) := by decide +kernel
theorem dL_law_2586 : decode cL_law 2586 = .ok (.iconst 0, 1) := by decide +kernel
theorem dL_law_2587 : decode cL_law 2587 = .ok (.ireturn, 1) := by decide +kernel
theorem dL_law_2588 : decode cL_law 2588 = .ok (.goto 1044, 3) := by decide +kernel
theorem dL_law_2591 : decode cL_law 2591 = .ok (.aload_n 1, 1) := by decide +kernel
theorem dL_law_2592 : decode cL_law 2592 = .ok (.aload_n 0, 1) := by decide +kernel
theorem dL_law_2593 : decode cL_law 2593 = .ok (.iload 4, 2) := by decide +kernel
theorem dL_law_2595 : decode cL_law 2595 = .ok (.iconst 1, 1) := by decide +kernel
theorem dL_law_2596 : decode cL_law 2596 = .ok (.iadd, 1) := by decide +kernel
theorem dL_law_2597 : decode cL_law 2597 = .ok (.iaload, 1) := by decide +kernel
theorem dL_law_2598 : decode cL_law 2598 = .ok (.aload_n 3, 1) := by decide +kernel
theorem dL_law_2599 : decode cL_law 2599 = .ok (.invokestatic 339, 3) := by decide +kernel
theorem dL_law_2602 : decode cL_law 2602 = .ok (.istore 5, 2) := by decide +kernel
theorem dL_law_2604 : decode cL_law 2604 = .ok (.aload_n 2, 1) := by decide +kernel
theorem dL_law_2605 : decode cL_law 2605 = .ok (.aload_n 0, 1) := by decide +kernel
theorem dL_law_2606 : decode cL_law 2606 = .ok (.iload 4, 2) := by decide +kernel
theorem dL_law_2608 : decode cL_law 2608 = .ok (.iconst 1, 1) := by decide +kernel
theorem dL_law_2609 : decode cL_law 2609 = .ok (.iadd, 1) := by decide +kernel
theorem dL_law_2610 : decode cL_law 2610 = .ok (.iaload, 1) := by decide +kernel
theorem dL_law_2611 : decode cL_law 2611 = .ok (.invokevirtual 341, 3) := by decide +kernel
theorem dL_law_2614 : decode cL_law 2614 = .ok (.istore 6, 2) := by decide +kernel
theorem dL_law_2616 : decode cL_law 2616 = .ok (.aload_n 2, 1) := by decide +kernel
theorem dL_law_2617 : decode cL_law 2617 = .ok (.invokevirtual 180, 3) := by decide +kernel
theorem dL_law_2620 : decode cL_law 2620 = .ok (.iload 5, 2) := by decide +kernel
theorem dL_law_2622 : decode cL_law 2622 = .ok (.if_icmp .eq 5, 3) := by decide +kernel
theorem dL_law_2625 : decode cL_law 2625 = .ok (.iconst 0, 1) := by decide +kernel
theorem dL_law_2626 : decode cL_law 2626 = .ok (.ireturn, 1) := by decide +kernel
theorem dL_law_2627 : decode cL_law 2627 = .ok (.iload 5, 2) := by decide +kernel
theorem dL_law_2629 : decode cL_law 2629 = .ok (.ifCond .ne 22, 3) := by decide +kernel
theorem dL_law_2632 : decode cL_law 2632 = .ok (.aload_n 3, 1) := by decide +kernel
theorem dL_law_2633 : decode cL_law 2633 = .ok (.iconst 0, 1) := by decide +kernel
theorem dL_law_2634 : decode cL_law 2634 = .ok (.laload, 1) := by decide +kernel
theorem dL_law_2635 : decode cL_law 2635 = .ok (.iload 6, 2) := by decide +kernel
theorem dL_law_2637 : decode cL_law 2637 = .ok (.ifCond .eq 7, 3) := by decide +kernel
theorem dL_law_2640 : decode cL_law 2640 = .ok (.lconst 1, 1) := by decide +kernel
theorem dL_law_2641 : decode cL_law 2641 = .ok (.goto 4, 3) := by decide +kernel
theorem dL_law_2644 : decode cL_law 2644 = .ok (.lconst 0, 1) := by decide +kernel
theorem dL_law_2645 : decode cL_law 2645 = .ok (.lcmp, 1) := by decide +kernel
theorem dL_law_2646 : decode cL_law 2646 = .ok (.ifCond .eq 5, 3) := by decide +kernel
theorem dL_law_2649 : decode cL_law 2649 = .ok (.iconst 0, 1) := by decide +kernel
theorem dL_law_2650 : decode cL_law 2650 = .ok (.ireturn, 1) := by decide +kernel
theorem dL_law_2651 : decode cL_law 2651 = .ok (.goto 981, 3) := by decide +kernel
theorem dL_law_2654 : decode cL_law 2654 = .ok (.aload_n 1, 1) := by decide +kernel
theorem dL_law_2655 : decode cL_law 2655 = .ok (.aload_n 0, 1) := by decide +kernel
theorem dL_law_2656 : decode cL_law 2656 = .ok (.iload 4, 2) := by decide +kernel
theorem dL_law_2658 : decode cL_law 2658 = .ok (.iconst 1, 1) := by decide +kernel
theorem dL_law_2659 : decode cL_law 2659 = .ok (.iadd, 1) := by decide +kernel
theorem tLaw22 {LL : Nat} {xs : Nat → Int32} {N : Nat} : z_AllE (zX1 LL xs N) 1409 (zLK22 LL xs N) :=
  z_ac (j := 1410) rfl (zx_I (sp_sld dL_law_2554 rfl)) <|
  z_ac (j := 1411) rfl (zx_V dL_law_2555 wl_1801 qX9_ticksUntilDone (by decide +kernel) ⟨_, _, rfl⟩ rfl) <|
  z_ac (j := 1412) rfl (zx_I (sp_istoreK dL_law_2558 (by decide) (by decide) rfl)) <|
  z_ac (j := 1413) rfl (zx_I (sp_aload_n (q := 2) dL_law_2560 rfl rfl)) <|
  z_ac (j := 1414) rfl (zx_V dL_law_2561 wl_1416 qX9_thrown (by decide +kernel) ⟨_, _, rfl⟩ rfl) <|
  z_ac (j := 1415) rfl (zx_I (sp_iload dL_law_2564 rfl)) <|
  z_ac (j := 1416) rfl (zx_I (sp_icmp_eq dL_law_2566 rfl rfl)) <|
  z_ac (j := 1417) rfl (zx_I (sp_iconst dL_law_2569 (by decide +kernel) rfl)) <|
  z_ac (j := 1418) rfl (zx_R (sr_bool dL_law_2570 rfl)) <|
  z_ac (j := 1419) rfl (zx_I (sp_iload dL_law_2571 rfl)) <|
  z_ac (j := 1420) rfl (zx_I (sp_if_ne dL_law_2573 rfl rfl)) <|
  z_ac (j := 1421) rfl (zx_I (sp_aload_n (q := 3) dL_law_2576 rfl rfl)) <|
  z_ac (j := 1422) rfl (zx_I (sp_iconst dL_law_2577 (by decide +kernel) rfl)) <|
  z_ac (j := 1423) rfl (zx_I (sp_lald dL_law_2578 rfl)) <|
  z_ac (j := 1424) rfl (zx_I (sp_iload dL_law_2579 rfl)) <|
  z_ac (j := 1425) rfl (zx_I (sp_i2l dL_law_2581 rfl)) <|
  z_ac (j := 1426) rfl (zx_I (sp_lcmp dL_law_2582 rfl)) <|
  z_ac (j := 1427) rfl (zx_I (sp_if_eq dL_law_2583 rfl rfl)) <|
  z_ac (j := 1428) rfl (zx_I (sp_iconst dL_law_2586 (by decide +kernel) rfl)) <|
  z_ac (j := 1429) rfl (zx_R (sr_bool dL_law_2587 rfl)) <|
  z_ac (j := 1430) rfl (zx_I (sp_goto dL_law_2588 rfl)) <|
  z_ac (j := 1431) rfl (zx_I (sp_aload_n (q := 1) dL_law_2591 rfl rfl)) <|
  z_ac (j := 1432) rfl (zx_I (sp_aload_n (q := 0) dL_law_2592 rfl rfl)) <|
  z_ac (j := 1433) rfl (zx_I (sp_iload dL_law_2593 rfl)) <|
  z_ac (j := 1434) rfl (zx_I (sp_iconst dL_law_2595 (by decide +kernel) rfl)) <|
  z_ac (j := 1435) rfl (zx_I (sp_iadd dL_law_2596 rfl)) <|
  z_ac (j := 1436) rfl (zx_I (sp_sld dL_law_2597 rfl)) <|
  z_ac (j := 1437) rfl (zx_I (sp_aload_n (q := 3) dL_law_2598 rfl rfl)) <|
  z_ac (j := 1438) rfl (zx_W dL_law_2599 wl_1184 qL_willArrive (by decide +kernel) rfl) <|
  z_ac (j := 1439) rfl (zx_I (sp_istore dL_law_2602 (by decide) (fun j hj => by have e : j = 4 := (by omega); subst e; rfl) rfl)) <|
  z_ac (j := 1440) rfl (zx_I (sp_aload_n (q := 2) dL_law_2604 rfl rfl)) <|
  z_ac (j := 1441) rfl (zx_I (sp_aload_n (q := 0) dL_law_2605 rfl rfl)) <|
  z_ac (j := 1442) rfl (zx_I (sp_iload dL_law_2606 rfl)) <|
  z_ac (j := 1443) rfl (zx_I (sp_iconst dL_law_2608 (by decide +kernel) rfl)) <|
  z_ac (j := 1444) rfl (zx_I (sp_iadd dL_law_2609 rfl)) <|
  z_ac (j := 1445) rfl (zx_I (sp_sld dL_law_2610 rfl)) <|
  z_ac (j := 1446) rfl (zx_V dL_law_2611 wl_1839 qX9_willArrive (by decide +kernel) ⟨_, _, rfl⟩ rfl) <|
  z_ac (j := 1447) rfl (zx_I (sp_istoreK dL_law_2614 (by decide) (by decide) rfl)) <|
  z_ac (j := 1448) rfl (zx_I (sp_aload_n (q := 2) dL_law_2616 rfl rfl)) <|
  z_ac (j := 1449) rfl (zx_V dL_law_2617 wl_1416 qX9_thrown (by decide +kernel) ⟨_, _, rfl⟩ rfl) <|
  z_ac (j := 1450) rfl (zx_I (sp_iload dL_law_2620 rfl)) <|
  z_ac (j := 1451) rfl (zx_I (sp_icmp_eq dL_law_2622 rfl rfl)) <|
  z_ac (j := 1452) rfl (zx_I (sp_iconst dL_law_2625 (by decide +kernel) rfl)) <|
  z_ac (j := 1453) rfl (zx_R (sr_bool dL_law_2626 rfl)) <|
  z_ac (j := 1454) rfl (zx_I (sp_iload dL_law_2627 rfl)) <|
  z_ac (j := 1455) rfl (zx_I (sp_if_ne dL_law_2629 rfl rfl)) <|
  z_ac (j := 1456) rfl (zx_I (sp_aload_n (q := 3) dL_law_2632 rfl rfl)) <|
  z_ac (j := 1457) rfl (zx_I (sp_iconst dL_law_2633 (by decide +kernel) rfl)) <|
  z_ac (j := 1458) rfl (zx_I (sp_lald dL_law_2634 rfl)) <|
  z_ac (j := 1459) rfl (zx_I (sp_iload dL_law_2635 rfl)) <|
  z_ac (j := 1460) rfl (zx_I (sp_if_eq dL_law_2637 rfl rfl)) <|
  z_ac (j := 1461) rfl (zx_I (sp_lconst (n := 1) dL_law_2640 (by decide +kernel) rfl)) <|
  z_ac (j := 1462) rfl (zx_I (sp_goto dL_law_2641 rfl)) <|
  z_ac (j := 1463) rfl (zx_I (sp_lconst (n := 0) dL_law_2644 (by decide +kernel) rfl)) <|
  z_ac (j := 1464) rfl (zx_I (sp_lcmp dL_law_2645 rfl)) <|
  z_ac (j := 1465) rfl (zx_I (sp_if_eq dL_law_2646 rfl rfl)) <|
  z_ac (j := 1466) rfl (zx_I (sp_iconst dL_law_2649 (by decide +kernel) rfl)) <|
  z_ac (j := 1467) rfl (zx_R (sr_bool dL_law_2650 rfl)) <|
  z_ac (j := 1468) rfl (zx_I (sp_goto dL_law_2651 rfl)) <|
  z_ac (j := 1469) rfl (zx_I (sp_aload_n (q := 1) dL_law_2654 rfl rfl)) <|
  z_ac (j := 1470) rfl (zx_I (sp_aload_n (q := 0) dL_law_2655 rfl rfl)) <|
  z_ac (j := 1471) rfl (zx_I (sp_iload dL_law_2656 rfl)) <|
  z_ac (j := 1472) rfl (zx_I (sp_iconst dL_law_2658 (by decide +kernel) rfl)) <|
  z_ac (j := 1473) rfl (zx_I (sp_iadd dL_law_2659 rfl)) <| z_an
theorem dL_law_2660 : decode cL_law 2660 = .ok (.iaload, 1) := by decide +kernel
theorem dL_law_2661 : decode cL_law 2661 = .ok (.aload_n 3, 1) := by decide +kernel
theorem dL_law_2662 : decode cL_law 2662 = .ok (.invokestatic 342, 3) := by decide +kernel
theorem dL_law_2665 : decode cL_law 2665 = .ok (.istore 5, 2) := by decide +kernel
theorem dL_law_2667 : decode cL_law 2667 = .ok (.aload_n 2, 1) := by decide +kernel
theorem dL_law_2668 : decode cL_law 2668 = .ok (.aload_n 0, 1) := by decide +kernel
theorem dL_law_2669 : decode cL_law 2669 = .ok (.iload 4, 2) := by decide +kernel
theorem dL_law_2671 : decode cL_law 2671 = .ok (.iconst 1, 1) := by decide +kernel
theorem dL_law_2672 : decode cL_law 2672 = .ok (.iadd, 1) := by decide +kernel
theorem dL_law_2673 : decode cL_law 2673 = .ok (.iaload, 1) := by decide +kernel
theorem dL_law_2674 : decode cL_law 2674 = .ok (.invokevirtual 344, 3) := by decide +kernel
theorem dL_law_2677 : decode cL_law 2677 = .ok (.istore 6, 2) := by decide +kernel
theorem dL_law_2679 : decode cL_law 2679 = .ok (.aload_n 2, 1) := by decide +kernel
theorem dL_law_2680 : decode cL_law 2680 = .ok (.invokevirtual 180, 3) := by decide +kernel
theorem dL_law_2683 : decode cL_law 2683 = .ok (.iload 5, 2) := by decide +kernel
theorem dL_law_2685 : decode cL_law 2685 = .ok (.if_icmp .eq 5, 3) := by decide +kernel
theorem dL_law_2688 : decode cL_law 2688 = .ok (.iconst 0, 1) := by decide +kernel
theorem dL_law_2689 : decode cL_law 2689 = .ok (.ireturn, 1) := by decide +kernel
theorem dL_law_2690 : decode cL_law 2690 = .ok (.iload 5, 2) := by decide +kernel
theorem dL_law_2692 : decode cL_law 2692 = .ok (.ifCond .ne 15, 3) := by decide +kernel
theorem dL_law_2695 : decode cL_law 2695 = .ok (.aload_n 3, 1) := by decide +kernel
theorem dL_law_2696 : decode cL_law 2696 = .ok (.iconst 0, 1) := by decide +kernel
theorem dL_law_2697 : decode cL_law 2697 = .ok (.laload, 1) := by decide +kernel
theorem dL_law_2698 : decode cL_law 2698 = .ok (.iload 6, 2) := by decide +kernel
theorem dL_law_2700 : decode cL_law 2700 = .ok (.i2l, 1) := by decide +kernel
theorem dL_law_2701 : decode cL_law 2701 = .ok (.lcmp, 1) := by decide +kernel
theorem dL_law_2702 : decode cL_law 2702 = .ok (.ifCond .eq 5, 3) := by decide +kernel
theorem dL_law_2705 : decode cL_law 2705 = .ok (.iconst 0, 1) := by decide +kernel
theorem dL_law_2706 : decode cL_law 2706 = .ok (.ireturn, 1) := by decide +kernel
theorem dL_law_2707 : decode cL_law 2707 = .ok (.goto 925, 3) := by decide +kernel
theorem dL_law_2710 : decode cL_law 2710 = .ok (.aload_n 1, 1) := by decide +kernel
theorem dL_law_2711 : decode cL_law 2711 = .ok (.aload_n 0, 1) := by decide +kernel
theorem dL_law_2712 : decode cL_law 2712 = .ok (.iload 4, 2) := by decide +kernel
theorem dL_law_2714 : decode cL_law 2714 = .ok (.iconst 1, 1) := by decide +kernel
theorem dL_law_2715 : decode cL_law 2715 = .ok (.iadd, 1) := by decide +kernel
theorem dL_law_2716 : decode cL_law 2716 = .ok (.iaload, 1) := by decide +kernel
theorem dL_law_2717 : decode cL_law 2717 = .ok (.aload_n 3, 1) := by decide +kernel
theorem dL_law_2718 : decode cL_law 2718 = .ok (.invokestatic 345, 3) := by decide +kernel
theorem dL_law_2721 : decode cL_law 2721 = .ok (.istore 5, 2) := by decide +kernel
theorem dL_law_2723 : decode cL_law 2723 = .ok (.aload_n 2, 1) := by decide +kernel
theorem dL_law_2724 : decode cL_law 2724 = .ok (.aload_n 0, 1) := by decide +kernel
theorem dL_law_2725 : decode cL_law 2725 = .ok (.iload 4, 2) := by decide +kernel
theorem dL_law_2727 : decode cL_law 2727 = .ok (.iconst 1, 1) := by decide +kernel
theorem dL_law_2728 : decode cL_law 2728 = .ok (.iadd, 1) := by decide +kernel
theorem dL_law_2729 : decode cL_law 2729 = .ok (.iaload, 1) := by decide +kernel
theorem dL_law_2730 : decode cL_law 2730 = .ok (.invokevirtual 347, 3) := by decide +kernel
theorem dL_law_2733 : decode cL_law 2733 = .ok (.istore 6, 2) := by decide +kernel
theorem dL_law_2735 : decode cL_law 2735 = .ok (.aload_n 2, 1) := by decide +kernel
theorem dL_law_2736 : decode cL_law 2736 = .ok (.invokevirtual 180, 3) := by decide +kernel
theorem dL_law_2739 : decode cL_law 2739 = .ok (.iload 5, 2) := by decide +kernel
theorem dL_law_2741 : decode cL_law 2741 = .ok (.if_icmp .eq 5, 3) := by decide +kernel
theorem dL_law_2744 : decode cL_law 2744 = .ok (.iconst 0, 1) := by decide +kernel
theorem dL_law_2745 : decode cL_law 2745 = .ok (.ireturn, 1) := by decide +kernel
theorem dL_law_2746 : decode cL_law 2746 = .ok (.iload 5, 2) := by decide +kernel
theorem dL_law_2748 : decode cL_law 2748 = .ok (.ifCond .ne 15, 3) := by decide +kernel
theorem dL_law_2751 : decode cL_law 2751 = .ok (.aload_n 3, 1) := by decide +kernel
theorem dL_law_2752 : decode cL_law 2752 = .ok (.iconst 0, 1) := by decide +kernel
theorem dL_law_2753 : decode cL_law 2753 = .ok (.laload, 1) := by decide +kernel
theorem dL_law_2754 : decode cL_law 2754 = .ok (.iload 6, 2) := by decide +kernel
theorem dL_law_2756 : decode cL_law 2756 = .ok (.i2l, 1) := by decide +kernel
theorem dL_law_2757 : decode cL_law 2757 = .ok (.lcmp, 1) := by decide +kernel
theorem dL_law_2758 : decode cL_law 2758 = .ok (.ifCond .eq 5, 3) := by decide +kernel
theorem dL_law_2761 : decode cL_law 2761 = .ok (.iconst 0, 1) := by decide +kernel
theorem dL_law_2762 : decode cL_law 2762 = .ok (.ireturn, 1) := by decide +kernel
theorem tLaw23 {LL : Nat} {xs : Nat → Int32} {N : Nat} : z_AllE (zX1 LL xs N) 1473 (zLK23 LL xs N) :=
  z_ac (j := 1474) rfl (zx_I (sp_sld dL_law_2660 rfl)) <|
  z_ac (j := 1475) rfl (zx_I (sp_aload_n (q := 3) dL_law_2661 rfl rfl)) <|
  z_ac (j := 1476) rfl (zx_W dL_law_2662 wl_1191 qL_arrivedAfter (by decide +kernel) rfl) <|
  z_ac (j := 1477) rfl (zx_I (sp_istore dL_law_2665 (by decide) (fun j hj => by have e : j = 4 := (by omega); subst e; rfl) rfl)) <|
  z_ac (j := 1478) rfl (zx_I (sp_aload_n (q := 2) dL_law_2667 rfl rfl)) <|
  z_ac (j := 1479) rfl (zx_I (sp_aload_n (q := 0) dL_law_2668 rfl rfl)) <|
  z_ac (j := 1480) rfl (zx_I (sp_iload dL_law_2669 rfl)) <|
  z_ac (j := 1481) rfl (zx_I (sp_iconst dL_law_2671 (by decide +kernel) rfl)) <|
  z_ac (j := 1482) rfl (zx_I (sp_iadd dL_law_2672 rfl)) <|
  z_ac (j := 1483) rfl (zx_I (sp_sld dL_law_2673 rfl)) <|
  z_ac (j := 1484) rfl (zx_V dL_law_2674 wl_1847 qX9_arrivedAfter (by decide +kernel) ⟨_, _, rfl⟩ rfl) <|
  z_ac (j := 1485) rfl (zx_I (sp_istoreK dL_law_2677 (by decide) (by decide) rfl)) <|
  z_ac (j := 1486) rfl (zx_I (sp_aload_n (q := 2) dL_law_2679 rfl rfl)) <|
  z_ac (j := 1487) rfl (zx_V dL_law_2680 wl_1416 qX9_thrown (by decide +kernel) ⟨_, _, rfl⟩ rfl) <|
  z_ac (j := 1488) rfl (zx_I (sp_iload dL_law_2683 rfl)) <|
  z_ac (j := 1489) rfl (zx_I (sp_icmp_eq dL_law_2685 rfl rfl)) <|
  z_ac (j := 1490) rfl (zx_I (sp_iconst dL_law_2688 (by decide +kernel) rfl)) <|
  z_ac (j := 1491) rfl (zx_R (sr_bool dL_law_2689 rfl)) <|
  z_ac (j := 1492) rfl (zx_I (sp_iload dL_law_2690 rfl)) <|
  z_ac (j := 1493) rfl (zx_I (sp_if_ne dL_law_2692 rfl rfl)) <|
  z_ac (j := 1494) rfl (zx_I (sp_aload_n (q := 3) dL_law_2695 rfl rfl)) <|
  z_ac (j := 1495) rfl (zx_I (sp_iconst dL_law_2696 (by decide +kernel) rfl)) <|
  z_ac (j := 1496) rfl (zx_I (sp_lald dL_law_2697 rfl)) <|
  z_ac (j := 1497) rfl (zx_I (sp_iload dL_law_2698 rfl)) <|
  z_ac (j := 1498) rfl (zx_I (sp_i2l dL_law_2700 rfl)) <|
  z_ac (j := 1499) rfl (zx_I (sp_lcmp dL_law_2701 rfl)) <|
  z_ac (j := 1500) rfl (zx_I (sp_if_eq dL_law_2702 rfl rfl)) <|
  z_ac (j := 1501) rfl (zx_I (sp_iconst dL_law_2705 (by decide +kernel) rfl)) <|
  z_ac (j := 1502) rfl (zx_R (sr_bool dL_law_2706 rfl)) <|
  z_ac (j := 1503) rfl (zx_I (sp_goto dL_law_2707 rfl)) <|
  z_ac (j := 1504) rfl (zx_I (sp_aload_n (q := 1) dL_law_2710 rfl rfl)) <|
  z_ac (j := 1505) rfl (zx_I (sp_aload_n (q := 0) dL_law_2711 rfl rfl)) <|
  z_ac (j := 1506) rfl (zx_I (sp_iload dL_law_2712 rfl)) <|
  z_ac (j := 1507) rfl (zx_I (sp_iconst dL_law_2714 (by decide +kernel) rfl)) <|
  z_ac (j := 1508) rfl (zx_I (sp_iadd dL_law_2715 rfl)) <|
  z_ac (j := 1509) rfl (zx_I (sp_sld dL_law_2716 rfl)) <|
  z_ac (j := 1510) rfl (zx_I (sp_aload_n (q := 3) dL_law_2717 rfl rfl)) <|
  z_ac (j := 1511) rfl (zx_W dL_law_2718 wl_1202 qL_sunkAfter (by decide +kernel) rfl) <|
  z_ac (j := 1512) rfl (zx_I (sp_istore dL_law_2721 (by decide) (fun j hj => by have e : j = 4 := (by omega); subst e; rfl) rfl)) <|
  z_ac (j := 1513) rfl (zx_I (sp_aload_n (q := 2) dL_law_2723 rfl rfl)) <|
  z_ac (j := 1514) rfl (zx_I (sp_aload_n (q := 0) dL_law_2724 rfl rfl)) <|
  z_ac (j := 1515) rfl (zx_I (sp_iload dL_law_2725 rfl)) <|
  z_ac (j := 1516) rfl (zx_I (sp_iconst dL_law_2727 (by decide +kernel) rfl)) <|
  z_ac (j := 1517) rfl (zx_I (sp_iadd dL_law_2728 rfl)) <|
  z_ac (j := 1518) rfl (zx_I (sp_sld dL_law_2729 rfl)) <|
  z_ac (j := 1519) rfl (zx_V dL_law_2730 wl_1855 qX9_sunkAfter (by decide +kernel) ⟨_, _, rfl⟩ rfl) <|
  z_ac (j := 1520) rfl (zx_I (sp_istoreK dL_law_2733 (by decide) (by decide) rfl)) <|
  z_ac (j := 1521) rfl (zx_I (sp_aload_n (q := 2) dL_law_2735 rfl rfl)) <|
  z_ac (j := 1522) rfl (zx_V dL_law_2736 wl_1416 qX9_thrown (by decide +kernel) ⟨_, _, rfl⟩ rfl) <|
  z_ac (j := 1523) rfl (zx_I (sp_iload dL_law_2739 rfl)) <|
  z_ac (j := 1524) rfl (zx_I (sp_icmp_eq dL_law_2741 rfl rfl)) <|
  z_ac (j := 1525) rfl (zx_I (sp_iconst dL_law_2744 (by decide +kernel) rfl)) <|
  z_ac (j := 1526) rfl (zx_R (sr_bool dL_law_2745 rfl)) <|
  z_ac (j := 1527) rfl (zx_I (sp_iload dL_law_2746 rfl)) <|
  z_ac (j := 1528) rfl (zx_I (sp_if_ne dL_law_2748 rfl rfl)) <|
  z_ac (j := 1529) rfl (zx_I (sp_aload_n (q := 3) dL_law_2751 rfl rfl)) <|
  z_ac (j := 1530) rfl (zx_I (sp_iconst dL_law_2752 (by decide +kernel) rfl)) <|
  z_ac (j := 1531) rfl (zx_I (sp_lald dL_law_2753 rfl)) <|
  z_ac (j := 1532) rfl (zx_I (sp_iload dL_law_2754 rfl)) <|
  z_ac (j := 1533) rfl (zx_I (sp_i2l dL_law_2756 rfl)) <|
  z_ac (j := 1534) rfl (zx_I (sp_lcmp dL_law_2757 rfl)) <|
  z_ac (j := 1535) rfl (zx_I (sp_if_eq dL_law_2758 rfl rfl)) <|
  z_ac (j := 1536) rfl (zx_I (sp_iconst dL_law_2761 (by decide +kernel) rfl)) <|
  z_ac (j := 1537) rfl (zx_R (sr_bool dL_law_2762 rfl)) <| z_an
theorem dL_law_2763 : decode cL_law 2763 = .ok (.goto 869, 3) := by decide +kernel
theorem dL_law_2766 : decode cL_law 2766 = .ok (.aload_n 1, 1) := by decide +kernel
theorem dL_law_2767 : decode cL_law 2767 = .ok (.invokevirtual 348, 3) := by decide +kernel
theorem dL_law_2770 : decode cL_law 2770 = .ok (.aload_n 2, 1) := by decide +kernel
theorem dL_law_2771 : decode cL_law 2771 = .ok (.invokevirtual 351, 3) := by decide +kernel
theorem dL_law_2774 : decode cL_law 2774 = .ok (.if_icmp .eq 858, 3) := by decide +kernel
theorem dL_law_2777 : decode cL_law 2777 = .ok (.iconst 0, 1) := by decide +kernel
theorem dL_law_2778 : decode cL_law 2778 = .ok (.ireturn, 1) := by decide +kernel
theorem dL_law_2779 : decode cL_law 2779 = .ok (.aload_n 1, 1) := by decide +kernel
theorem dL_law_2780 : decode cL_law 2780 = .ok (.aload_n 0, 1) := by decide +kernel
theorem dL_law_2781 : decode cL_law 2781 = .ok (.iload 4, 2) := by decide +kernel
theorem dL_law_2783 : decode cL_law 2783 = .ok (.iconst 1, 1) := by decide +kernel
theorem dL_law_2784 : decode cL_law 2784 = .ok (.iadd, 1) := by decide +kernel
theorem dL_law_2785 : decode cL_law 2785 = .ok (.iaload, 1) := by decide +kernel
theorem dL_law_2786 : decode cL_law 2786 = .ok (.aload_n 3, 1) := by decide +kernel
theorem dL_law_2787 : decode cL_law 2787 = .ok (.invokestatic 352, 3) := by decide +kernel
theorem dL_law_2790 : decode cL_law 2790 = .ok (.istore 5, 2) := by decide +kernel
theorem dL_law_2792 : decode cL_law 2792 = .ok (.aload_n 2, 1) := by decide +kernel
theorem dL_law_2793 : decode cL_law 2793 = .ok (.aload_n 0, 1) := by decide +kernel
theorem dL_law_2794 : decode cL_law 2794 = .ok (.iload 4, 2) := by decide +kernel
theorem dL_law_2796 : decode cL_law 2796 = .ok (.iconst 1, 1) := by decide +kernel
theorem dL_law_2797 : decode cL_law 2797 = .ok (.iadd, 1) := by decide +kernel
theorem dL_law_2798 : decode cL_law 2798 = .ok (.iaload, 1) := by decide +kernel
theorem dL_law_2799 : decode cL_law 2799 = .ok (.invokevirtual 354, 3) := by decide +kernel
theorem dL_law_2802 : decode cL_law 2802 = .ok (.istore 6, 2) := by decide +kernel
theorem dL_law_2804 : decode cL_law 2804 = .ok (.aload_n 2, 1) := by decide +kernel
theorem dL_law_2805 : decode cL_law 2805 = .ok (.invokevirtual 180, 3) := by decide +kernel
theorem dL_law_2808 : decode cL_law 2808 = .ok (.iload 5, 2) := by decide +kernel
theorem dL_law_2810 : decode cL_law 2810 = .ok (.if_icmp .eq 5, 3) := by decide +kernel
theorem dL_law_2813 : decode cL_law 2813 = .ok (.iconst 0, 1) := by decide +kernel
theorem dL_law_2814 : decode cL_law 2814 = .ok (.ireturn, 1) := by decide +kernel
theorem dL_law_2815 : decode cL_law 2815 = .ok (.iload 5, 2) := by decide +kernel
theorem dL_law_2817 : decode cL_law 2817 = .ok (.ifCond .ne 15, 3) := by decide +kernel
theorem dL_law_2820 : decode cL_law 2820 = .ok (.aload_n 3, 1) := by decide +kernel
theorem dL_law_2821 : decode cL_law 2821 = .ok (.iconst 0, 1) := by decide +kernel
theorem dL_law_2822 : decode cL_law 2822 = .ok (.laload, 1) := by decide +kernel
theorem dL_law_2823 : decode cL_law 2823 = .ok (.iload 6, 2) := by decide +kernel
theorem dL_law_2825 : decode cL_law 2825 = .ok (.i2l, 1) := by decide +kernel
theorem dL_law_2826 : decode cL_law 2826 = .ok (.lcmp, 1) := by decide +kernel
theorem dL_law_2827 : decode cL_law 2827 = .ok (.ifCond .eq 5, 3) := by decide +kernel
theorem dL_law_2830 : decode cL_law 2830 = .ok (.iconst 0, 1) := by decide +kernel
theorem dL_law_2831 : decode cL_law 2831 = .ok (.ireturn, 1) := by decide +kernel
theorem dL_law_2832 : decode cL_law 2832 = .ok (.goto 800, 3) := by decide +kernel
theorem dL_law_2835 : decode cL_law 2835 = .ok (.aload_n 1, 1) := by decide +kernel
theorem dL_law_2836 : decode cL_law 2836 = .ok (.aload_n 0, 1) := by decide +kernel
theorem dL_law_2837 : decode cL_law 2837 = .ok (.iload 4, 2) := by decide +kernel
theorem dL_law_2839 : decode cL_law 2839 = .ok (.iconst 1, 1) := by decide +kernel
theorem dL_law_2840 : decode cL_law 2840 = .ok (.iadd, 1) := by decide +kernel
theorem dL_law_2841 : decode cL_law 2841 = .ok (.iaload, 1) := by decide +kernel
theorem dL_law_2842 : decode cL_law 2842 = .ok (.aload_n 0, 1) := by decide +kernel
theorem dL_law_2843 : decode cL_law 2843 = .ok (.iload 4, 2) := by decide +kernel
theorem dL_law_2845 : decode cL_law 2845 = .ok (.iconst 2, 1) := by decide +kernel
theorem dL_law_2846 : decode cL_law 2846 = .ok (.iadd, 1) := by decide +kernel
theorem dL_law_2847 : decode cL_law 2847 = .ok (.iaload, 1) := by decide +kernel
theorem dL_law_2848 : decode cL_law 2848 = .ok (.aload_n 0, 1) := by decide +kernel
theorem dL_law_2849 : decode cL_law 2849 = .ok (.iload 4, 2) := by decide +kernel
theorem dL_law_2851 : decode cL_law 2851 = .ok (.iconst 3, 1) := by decide +kernel
theorem dL_law_2852 : decode cL_law 2852 = .ok (.iadd, 1) := by decide +kernel
theorem dL_law_2853 : decode cL_law 2853 = .ok (.iaload, 1) := by decide +kernel
theorem dL_law_2854 : decode cL_law 2854 = .ok (.aload_n 0, 1) := by decide +kernel
theorem dL_law_2855 : decode cL_law 2855 = .ok (.iload 4, 2) := by decide +kernel
theorem dL_law_2857 : decode cL_law 2857 = .ok (.iconst 4, 1) := by decide +kernel
theorem dL_law_2858 : decode cL_law 2858 = .ok (.iadd, 1) := by decide +kernel
theorem dL_law_2859 : decode cL_law 2859 = .ok (.iaload, 1) := by decide +kernel
theorem tLaw24 {LL : Nat} {xs : Nat → Int32} {N : Nat} : z_AllE (zX1 LL xs N) 1537 (zLK24 LL xs N) :=
  z_ac (j := 1538) rfl (zx_I (sp_goto dL_law_2763 rfl)) <|
  z_ac (j := 1539) rfl (zx_I (sp_aload_n (q := 1) dL_law_2766 rfl rfl)) <|
  z_ac (j := 1540) rfl (zx_V dL_law_2767 wl_622 qX8_bestClearness (by decide +kernel) ⟨_, _, rfl⟩ rfl) <|
  z_ac (j := 1541) rfl (zx_I (sp_aload_n (q := 2) dL_law_2770 rfl rfl)) <|
  z_ac (j := 1542) rfl (zx_V dL_law_2771 wl_1859 qX9_bestClearness (by decide +kernel) ⟨_, _, rfl⟩ rfl) <|
  z_ac (j := 1543) rfl (zx_I (sp_icmp_eq dL_law_2774 rfl rfl)) <|
  z_ac (j := 1544) rfl (zx_I (sp_iconst dL_law_2777 (by decide +kernel) rfl)) <|
  z_ac (j := 1545) rfl (zx_R (sr_bool dL_law_2778 rfl)) <|
  z_ac (j := 1546) rfl (zx_I (sp_aload_n (q := 1) dL_law_2779 rfl rfl)) <|
  z_ac (j := 1547) rfl (zx_I (sp_aload_n (q := 0) dL_law_2780 rfl rfl)) <|
  z_ac (j := 1548) rfl (zx_I (sp_iload dL_law_2781 rfl)) <|
  z_ac (j := 1549) rfl (zx_I (sp_iconst dL_law_2783 (by decide +kernel) rfl)) <|
  z_ac (j := 1550) rfl (zx_I (sp_iadd dL_law_2784 rfl)) <|
  z_ac (j := 1551) rfl (zx_I (sp_sld dL_law_2785 rfl)) <|
  z_ac (j := 1552) rfl (zx_I (sp_aload_n (q := 3) dL_law_2786 rfl rfl)) <|
  z_ac (j := 1553) rfl (zx_W dL_law_2787 wl_1209 qL_tick (by decide +kernel) rfl) <|
  z_ac (j := 1554) rfl (zx_I (sp_istore dL_law_2790 (by decide) (fun j hj => by have e : j = 4 := (by omega); subst e; rfl) rfl)) <|
  z_ac (j := 1555) rfl (zx_I (sp_aload_n (q := 2) dL_law_2792 rfl rfl)) <|
  z_ac (j := 1556) rfl (zx_I (sp_aload_n (q := 0) dL_law_2793 rfl rfl)) <|
  z_ac (j := 1557) rfl (zx_I (sp_iload dL_law_2794 rfl)) <|
  z_ac (j := 1558) rfl (zx_I (sp_iconst dL_law_2796 (by decide +kernel) rfl)) <|
  z_ac (j := 1559) rfl (zx_I (sp_iadd dL_law_2797 rfl)) <|
  z_ac (j := 1560) rfl (zx_I (sp_sld dL_law_2798 rfl)) <|
  z_ac (j := 1561) rfl (zx_V dL_law_2799 wl_1863 qX9_tick (by decide +kernel) ⟨_, _, rfl⟩ rfl) <|
  z_ac (j := 1562) rfl (zx_I (sp_istoreK dL_law_2802 (by decide) (by decide) rfl)) <|
  z_ac (j := 1563) rfl (zx_I (sp_aload_n (q := 2) dL_law_2804 rfl rfl)) <|
  z_ac (j := 1564) rfl (zx_V dL_law_2805 wl_1416 qX9_thrown (by decide +kernel) ⟨_, _, rfl⟩ rfl) <|
  z_ac (j := 1565) rfl (zx_I (sp_iload dL_law_2808 rfl)) <|
  z_ac (j := 1566) rfl (zx_I (sp_icmp_eq dL_law_2810 rfl rfl)) <|
  z_ac (j := 1567) rfl (zx_I (sp_iconst dL_law_2813 (by decide +kernel) rfl)) <|
  z_ac (j := 1568) rfl (zx_R (sr_bool dL_law_2814 rfl)) <|
  z_ac (j := 1569) rfl (zx_I (sp_iload dL_law_2815 rfl)) <|
  z_ac (j := 1570) rfl (zx_I (sp_if_ne dL_law_2817 rfl rfl)) <|
  z_ac (j := 1571) rfl (zx_I (sp_aload_n (q := 3) dL_law_2820 rfl rfl)) <|
  z_ac (j := 1572) rfl (zx_I (sp_iconst dL_law_2821 (by decide +kernel) rfl)) <|
  z_ac (j := 1573) rfl (zx_I (sp_lald dL_law_2822 rfl)) <|
  z_ac (j := 1574) rfl (zx_I (sp_iload dL_law_2823 rfl)) <|
  z_ac (j := 1575) rfl (zx_I (sp_i2l dL_law_2825 rfl)) <|
  z_ac (j := 1576) rfl (zx_I (sp_lcmp dL_law_2826 rfl)) <|
  z_ac (j := 1577) rfl (zx_I (sp_if_eq dL_law_2827 rfl rfl)) <|
  z_ac (j := 1578) rfl (zx_I (sp_iconst dL_law_2830 (by decide +kernel) rfl)) <|
  z_ac (j := 1579) rfl (zx_R (sr_bool dL_law_2831 rfl)) <|
  z_ac (j := 1580) rfl (zx_I (sp_goto dL_law_2832 rfl)) <|
  z_ac (j := 1581) rfl (zx_I (sp_aload_n (q := 1) dL_law_2835 rfl rfl)) <|
  z_ac (j := 1582) rfl (zx_I (sp_aload_n (q := 0) dL_law_2836 rfl rfl)) <|
  z_ac (j := 1583) rfl (zx_I (sp_iload dL_law_2837 rfl)) <|
  z_ac (j := 1584) rfl (zx_I (sp_iconst dL_law_2839 (by decide +kernel) rfl)) <|
  z_ac (j := 1585) rfl (zx_I (sp_iadd dL_law_2840 rfl)) <|
  z_ac (j := 1586) rfl (zx_I (sp_sld dL_law_2841 rfl)) <|
  z_ac (j := 1587) rfl (zx_I (sp_aload_n (q := 0) dL_law_2842 rfl rfl)) <|
  z_ac (j := 1588) rfl (zx_I (sp_iload dL_law_2843 rfl)) <|
  z_ac (j := 1589) rfl (zx_I (sp_iconst dL_law_2845 (by decide +kernel) rfl)) <|
  z_ac (j := 1590) rfl (zx_I (sp_iadd dL_law_2846 rfl)) <|
  z_ac (j := 1591) rfl (zx_I (sp_sld dL_law_2847 rfl)) <|
  z_ac (j := 1592) rfl (zx_I (sp_aload_n (q := 0) dL_law_2848 rfl rfl)) <|
  z_ac (j := 1593) rfl (zx_I (sp_iload dL_law_2849 rfl)) <|
  z_ac (j := 1594) rfl (zx_I (sp_iconst dL_law_2851 (by decide +kernel) rfl)) <|
  z_ac (j := 1595) rfl (zx_I (sp_iadd dL_law_2852 rfl)) <|
  z_ac (j := 1596) rfl (zx_I (sp_sld dL_law_2853 rfl)) <|
  z_ac (j := 1597) rfl (zx_I (sp_aload_n (q := 0) dL_law_2854 rfl rfl)) <|
  z_ac (j := 1598) rfl (zx_I (sp_iload dL_law_2855 rfl)) <|
  z_ac (j := 1599) rfl (zx_I (sp_iconst dL_law_2857 (by decide +kernel) rfl)) <|
  z_ac (j := 1600) rfl (zx_I (sp_iadd dL_law_2858 rfl)) <|
  z_ac (j := 1601) rfl (zx_I (sp_sld dL_law_2859 rfl)) <| z_an
theorem dL_law_2860 : decode cL_law 2860 = .ok (.ifCond .eq 7, 3) := by decide +kernel
theorem dL_law_2863 : decode cL_law 2863 = .ok (.iconst 1, 1) := by decide +kernel
theorem dL_law_2864 : decode cL_law 2864 = .ok (.goto 4, 3) := by decide +kernel
theorem dL_law_2867 : decode cL_law 2867 = .ok (.iconst 0, 1) := by decide +kernel
theorem dL_law_2868 : decode cL_law 2868 = .ok (.aload_n 3, 1) := by decide +kernel
theorem dL_law_2869 : decode cL_law 2869 = .ok (.invokestatic 355, 3) := by decide +kernel
theorem dL_law_2872 : decode cL_law 2872 = .ok (.istore 5, 2) := by decide +kernel
theorem dL_law_2874 : decode cL_law 2874 = .ok (.aload_n 2, 1) := by decide +kernel
theorem dL_law_2875 : decode cL_law 2875 = .ok (.aload_n 0, 1) := by decide +kernel
theorem dL_law_2876 : decode cL_law 2876 = .ok (.iload 4, 2) := by decide +kernel
theorem dL_law_2878 : decode cL_law 2878 = .ok (.iconst 1, 1) := by decide +kernel
theorem dL_law_2879 : decode cL_law 2879 = .ok (.iadd, 1) := by decide +kernel
theorem dL_law_2880 : decode cL_law 2880 = .ok (.iaload, 1) := by decide +kernel
theorem dL_law_2881 : decode cL_law 2881 = .ok (.aload_n 0, 1) := by decide +kernel
theorem dL_law_2882 : decode cL_law 2882 = .ok (.iload 4, 2) := by decide +kernel
theorem dL_law_2884 : decode cL_law 2884 = .ok (.iconst 2, 1) := by decide +kernel
theorem dL_law_2885 : decode cL_law 2885 = .ok (.iadd, 1) := by decide +kernel
theorem dL_law_2886 : decode cL_law 2886 = .ok (.iaload, 1) := by decide +kernel
theorem dL_law_2887 : decode cL_law 2887 = .ok (.aload_n 0, 1) := by decide +kernel
theorem dL_law_2888 : decode cL_law 2888 = .ok (.iload 4, 2) := by decide +kernel
theorem dL_law_2890 : decode cL_law 2890 = .ok (.iconst 3, 1) := by decide +kernel
theorem dL_law_2891 : decode cL_law 2891 = .ok (.iadd, 1) := by decide +kernel
theorem dL_law_2892 : decode cL_law 2892 = .ok (.iaload, 1) := by decide +kernel
theorem dL_law_2893 : decode cL_law 2893 = .ok (.aload_n 0, 1) := by decide +kernel
theorem dL_law_2894 : decode cL_law 2894 = .ok (.iload 4, 2) := by decide +kernel
theorem dL_law_2896 : decode cL_law 2896 = .ok (.iconst 4, 1) := by decide +kernel
theorem dL_law_2897 : decode cL_law 2897 = .ok (.iadd, 1) := by decide +kernel
theorem dL_law_2898 : decode cL_law 2898 = .ok (.iaload, 1) := by decide +kernel
theorem dL_law_2899 : decode cL_law 2899 = .ok (.ifCond .eq 7, 3) := by decide +kernel
theorem dL_law_2902 : decode cL_law 2902 = .ok (.iconst 1, 1) := by decide +kernel
theorem dL_law_2903 : decode cL_law 2903 = .ok (.goto 4, 3) := by decide +kernel
theorem dL_law_2906 : decode cL_law 2906 = .ok (.iconst 0, 1) := by decide +kernel
theorem dL_law_2907 : decode cL_law 2907 = .ok (.invokevirtual 358, 3) := by decide +kernel
theorem dL_law_2910 : decode cL_law 2910 = .ok (.istore 6, 2) := by decide +kernel
theorem dL_law_2912 : decode cL_law 2912 = .ok (.aload_n 2, 1) := by decide +kernel
theorem dL_law_2913 : decode cL_law 2913 = .ok (.invokevirtual 180, 3) := by decide +kernel
theorem dL_law_2916 : decode cL_law 2916 = .ok (.iload 5, 2) := by decide +kernel
theorem dL_law_2918 : decode cL_law 2918 = .ok (.if_icmp .eq 5, 3) := by decide +kernel
theorem dL_law_2921 : decode cL_law 2921 = .ok (.iconst 0, 1) := by decide +kernel
theorem dL_law_2922 : decode cL_law 2922 = .ok (.ireturn, 1) := by decide +kernel
theorem dL_law_2923 : decode cL_law 2923 = .ok (.iload 5, 2) := by decide +kernel
theorem dL_law_2925 : decode cL_law 2925 = .ok (.ifCond .ne 15, 3) := by decide +kernel
theorem dL_law_2928 : decode cL_law 2928 = .ok (.aload_n 3, 1) := by decide +kernel
theorem dL_law_2929 : decode cL_law 2929 = .ok (.iconst 0, 1) := by decide +kernel
theorem dL_law_2930 : decode cL_law 2930 = .ok (.laload, 1) := by decide +kernel
theorem dL_law_2931 : decode cL_law 2931 = .ok (.iload 6, 2) := by decide +kernel
theorem dL_law_2933 : decode cL_law 2933 = .ok (.i2l, 1) := by decide +kernel
theorem dL_law_2934 : decode cL_law 2934 = .ok (.lcmp, 1) := by decide +kernel
theorem dL_law_2935 : decode cL_law 2935 = .ok (.ifCond .eq 5, 3) := by decide +kernel
theorem dL_law_2938 : decode cL_law 2938 = .ok (.iconst 0, 1) := by decide +kernel
theorem dL_law_2939 : decode cL_law 2939 = .ok (.ireturn, 1) := by decide +kernel
theorem dL_law_2940 : decode cL_law 2940 = .ok (.goto 692, 3) := by decide +kernel
theorem dL_law_2943 : decode cL_law 2943 = .ok (.aload_n 1, 1) := by decide +kernel
theorem dL_law_2944 : decode cL_law 2944 = .ok (.aload_n 0, 1) := by decide +kernel
theorem dL_law_2945 : decode cL_law 2945 = .ok (.iload 4, 2) := by decide +kernel
theorem dL_law_2947 : decode cL_law 2947 = .ok (.iconst 1, 1) := by decide +kernel
theorem dL_law_2948 : decode cL_law 2948 = .ok (.iadd, 1) := by decide +kernel
theorem dL_law_2949 : decode cL_law 2949 = .ok (.iaload, 1) := by decide +kernel
theorem dL_law_2950 : decode cL_law 2950 = .ok (.aload_n 0, 1) := by decide +kernel
theorem dL_law_2951 : decode cL_law 2951 = .ok (.iload 4, 2) := by decide +kernel
theorem dL_law_2953 : decode cL_law 2953 = .ok (.iconst 2, 1) := by decide +kernel
theorem dL_law_2954 : decode cL_law 2954 = .ok (.iadd, 1) := by decide +kernel
theorem dL_law_2955 : decode cL_law 2955 = .ok (.iaload, 1) := by decide +kernel
theorem dL_law_2956 : decode cL_law 2956 = .ok (.aload_n 3, 1) := by decide +kernel
theorem tLaw25 {LL : Nat} {xs : Nat → Int32} {N : Nat} : z_AllE (zX1 LL xs N) 1601 (zLK25 LL xs N) :=
  z_ac (j := 1602) rfl (zx_I (sp_if_eq dL_law_2860 rfl rfl)) <|
  z_ac (j := 1603) rfl (zx_I (sp_iconst dL_law_2863 (by decide +kernel) rfl)) <|
  z_ac (j := 1604) rfl (zx_I (sp_goto dL_law_2864 rfl)) <|
  z_ac (j := 1605) rfl (zx_I (sp_iconst dL_law_2867 (by decide +kernel) rfl)) <|
  z_ac (j := 1606) rfl (zx_I (sp_aload_n (q := 3) dL_law_2868 rfl rfl)) <|
  z_ac (j := 1607) rfl (zx_W dL_law_2869 wl_1224 qL_addLight (by decide +kernel) rfl) <|
  z_ac (j := 1608) rfl (zx_I (sp_istore dL_law_2872 (by decide) (fun j hj => by have e : j = 4 := (by omega); subst e; rfl) rfl)) <|
  z_ac (j := 1609) rfl (zx_I (sp_aload_n (q := 2) dL_law_2874 rfl rfl)) <|
  z_ac (j := 1610) rfl (zx_I (sp_aload_n (q := 0) dL_law_2875 rfl rfl)) <|
  z_ac (j := 1611) rfl (zx_I (sp_iload dL_law_2876 rfl)) <|
  z_ac (j := 1612) rfl (zx_I (sp_iconst dL_law_2878 (by decide +kernel) rfl)) <|
  z_ac (j := 1613) rfl (zx_I (sp_iadd dL_law_2879 rfl)) <|
  z_ac (j := 1614) rfl (zx_I (sp_sld dL_law_2880 rfl)) <|
  z_ac (j := 1615) rfl (zx_I (sp_aload_n (q := 0) dL_law_2881 rfl rfl)) <|
  z_ac (j := 1616) rfl (zx_I (sp_iload dL_law_2882 rfl)) <|
  z_ac (j := 1617) rfl (zx_I (sp_iconst dL_law_2884 (by decide +kernel) rfl)) <|
  z_ac (j := 1618) rfl (zx_I (sp_iadd dL_law_2885 rfl)) <|
  z_ac (j := 1619) rfl (zx_I (sp_sld dL_law_2886 rfl)) <|
  z_ac (j := 1620) rfl (zx_I (sp_aload_n (q := 0) dL_law_2887 rfl rfl)) <|
  z_ac (j := 1621) rfl (zx_I (sp_iload dL_law_2888 rfl)) <|
  z_ac (j := 1622) rfl (zx_I (sp_iconst dL_law_2890 (by decide +kernel) rfl)) <|
  z_ac (j := 1623) rfl (zx_I (sp_iadd dL_law_2891 rfl)) <|
  z_ac (j := 1624) rfl (zx_I (sp_sld dL_law_2892 rfl)) <|
  z_ac (j := 1625) rfl (zx_I (sp_aload_n (q := 0) dL_law_2893 rfl rfl)) <|
  z_ac (j := 1626) rfl (zx_I (sp_iload dL_law_2894 rfl)) <|
  z_ac (j := 1627) rfl (zx_I (sp_iconst dL_law_2896 (by decide +kernel) rfl)) <|
  z_ac (j := 1628) rfl (zx_I (sp_iadd dL_law_2897 rfl)) <|
  z_ac (j := 1629) rfl (zx_I (sp_sld dL_law_2898 rfl)) <|
  z_ac (j := 1630) rfl (zx_I (sp_if_eq dL_law_2899 rfl rfl)) <|
  z_ac (j := 1631) rfl (zx_I (sp_iconst dL_law_2902 (by decide +kernel) rfl)) <|
  z_ac (j := 1632) rfl (zx_I (sp_goto dL_law_2903 rfl)) <|
  z_ac (j := 1633) rfl (zx_I (sp_iconst dL_law_2906 (by decide +kernel) rfl)) <|
  z_ac (j := 1634) rfl (zx_V dL_law_2907 wl_1871 qX9_addLight (by decide +kernel) ⟨_, _, rfl⟩ rfl) <|
  z_ac (j := 1635) rfl (zx_I (sp_istoreK dL_law_2910 (by decide) (by decide) rfl)) <|
  z_ac (j := 1636) rfl (zx_I (sp_aload_n (q := 2) dL_law_2912 rfl rfl)) <|
  z_ac (j := 1637) rfl (zx_V dL_law_2913 wl_1416 qX9_thrown (by decide +kernel) ⟨_, _, rfl⟩ rfl) <|
  z_ac (j := 1638) rfl (zx_I (sp_iload dL_law_2916 rfl)) <|
  z_ac (j := 1639) rfl (zx_I (sp_icmp_eq dL_law_2918 rfl rfl)) <|
  z_ac (j := 1640) rfl (zx_I (sp_iconst dL_law_2921 (by decide +kernel) rfl)) <|
  z_ac (j := 1641) rfl (zx_R (sr_bool dL_law_2922 rfl)) <|
  z_ac (j := 1642) rfl (zx_I (sp_iload dL_law_2923 rfl)) <|
  z_ac (j := 1643) rfl (zx_I (sp_if_ne dL_law_2925 rfl rfl)) <|
  z_ac (j := 1644) rfl (zx_I (sp_aload_n (q := 3) dL_law_2928 rfl rfl)) <|
  z_ac (j := 1645) rfl (zx_I (sp_iconst dL_law_2929 (by decide +kernel) rfl)) <|
  z_ac (j := 1646) rfl (zx_I (sp_lald dL_law_2930 rfl)) <|
  z_ac (j := 1647) rfl (zx_I (sp_iload dL_law_2931 rfl)) <|
  z_ac (j := 1648) rfl (zx_I (sp_i2l dL_law_2933 rfl)) <|
  z_ac (j := 1649) rfl (zx_I (sp_lcmp dL_law_2934 rfl)) <|
  z_ac (j := 1650) rfl (zx_I (sp_if_eq dL_law_2935 rfl rfl)) <|
  z_ac (j := 1651) rfl (zx_I (sp_iconst dL_law_2938 (by decide +kernel) rfl)) <|
  z_ac (j := 1652) rfl (zx_R (sr_bool dL_law_2939 rfl)) <|
  z_ac (j := 1653) rfl (zx_I (sp_goto dL_law_2940 rfl)) <|
  z_ac (j := 1654) rfl (zx_I (sp_aload_n (q := 1) dL_law_2943 rfl rfl)) <|
  z_ac (j := 1655) rfl (zx_I (sp_aload_n (q := 0) dL_law_2944 rfl rfl)) <|
  z_ac (j := 1656) rfl (zx_I (sp_iload dL_law_2945 rfl)) <|
  z_ac (j := 1657) rfl (zx_I (sp_iconst dL_law_2947 (by decide +kernel) rfl)) <|
  z_ac (j := 1658) rfl (zx_I (sp_iadd dL_law_2948 rfl)) <|
  z_ac (j := 1659) rfl (zx_I (sp_sld dL_law_2949 rfl)) <|
  z_ac (j := 1660) rfl (zx_I (sp_aload_n (q := 0) dL_law_2950 rfl rfl)) <|
  z_ac (j := 1661) rfl (zx_I (sp_iload dL_law_2951 rfl)) <|
  z_ac (j := 1662) rfl (zx_I (sp_iconst dL_law_2953 (by decide +kernel) rfl)) <|
  z_ac (j := 1663) rfl (zx_I (sp_iadd dL_law_2954 rfl)) <|
  z_ac (j := 1664) rfl (zx_I (sp_sld dL_law_2955 rfl)) <|
  z_ac (j := 1665) rfl (zx_I (sp_aload_n (q := 3) dL_law_2956 rfl rfl)) <| z_an
theorem dL_law_2957 : decode cL_law 2957 = .ok (.invokestatic 359, 3) := by decide +kernel
theorem dL_law_2960 : decode cL_law 2960 = .ok (.istore 5, 2) := by decide +kernel
theorem dL_law_2962 : decode cL_law 2962 = .ok (.aload_n 2, 1) := by decide +kernel
theorem dL_law_2963 : decode cL_law 2963 = .ok (.aload_n 0, 1) := by decide +kernel
theorem dL_law_2964 : decode cL_law 2964 = .ok (.iload 4, 2) := by decide +kernel
theorem dL_law_2966 : decode cL_law 2966 = .ok (.iconst 1, 1) := by decide +kernel
theorem dL_law_2967 : decode cL_law 2967 = .ok (.iadd, 1) := by decide +kernel
theorem dL_law_2968 : decode cL_law 2968 = .ok (.iaload, 1) := by decide +kernel
theorem dL_law_2969 : decode cL_law 2969 = .ok (.aload_n 0, 1) := by decide +kernel
theorem dL_law_2970 : decode cL_law 2970 = .ok (.iload 4, 2) := by decide +kernel
theorem dL_law_2972 : decode cL_law 2972 = .ok (.iconst 2, 1) := by decide +kernel
theorem dL_law_2973 : decode cL_law 2973 = .ok (.iadd, 1) := by decide +kernel
theorem dL_law_2974 : decode cL_law 2974 = .ok (.iaload, 1) := by decide +kernel
theorem dL_law_2975 : decode cL_law 2975 = .ok (.invokevirtual 361, 3) := by decide +kernel
theorem dL_law_2978 : decode cL_law 2978 = .ok (.istore 6, 2) := by decide +kernel
theorem dL_law_2980 : decode cL_law 2980 = .ok (.aload_n 2, 1) := by decide +kernel
theorem dL_law_2981 : decode cL_law 2981 = .ok (.invokevirtual 180, 3) := by decide +kernel
theorem dL_law_2984 : decode cL_law 2984 = .ok (.iload 5, 2) := by decide +kernel
theorem dL_law_2986 : decode cL_law 2986 = .ok (.if_icmp .eq 5, 3) := by decide +kernel
theorem dL_law_2989 : decode cL_law 2989 = .ok (.iconst 0, 1) := by decide +kernel
theorem dL_law_2990 : decode cL_law 2990 = .ok (.ireturn, 1) := by decide +kernel
theorem dL_law_2991 : decode cL_law 2991 = .ok (.iload 5, 2) := by decide +kernel
theorem dL_law_2993 : decode cL_law 2993 = .ok (.ifCond .ne 15, 3) := by decide +kernel
theorem dL_law_2996 : decode cL_law 2996 = .ok (.aload_n 3, 1) := by decide +kernel
theorem dL_law_2997 : decode cL_law 2997 = .ok (.iconst 0, 1) := by decide +kernel
theorem dL_law_2998 : decode cL_law 2998 = .ok (.laload, 1) := by decide +kernel
theorem dL_law_2999 : decode cL_law 2999 = .ok (.iload 6, 2) := by decide +kernel
theorem dL_law_3001 : decode cL_law 3001 = .ok (.i2l, 1) := by decide +kernel
theorem dL_law_3002 : decode cL_law 3002 = .ok (.lcmp, 1) := by decide +kernel
theorem dL_law_3003 : decode cL_law 3003 = .ok (.ifCond .eq 5, 3) := by decide +kernel
theorem dL_law_3006 : decode cL_law 3006 = .ok (.iconst 0, 1) := by decide +kernel
theorem dL_law_3007 : decode cL_law 3007 = .ok (.ireturn, 1) := by decide +kernel
theorem dL_law_3008 : decode cL_law 3008 = .ok (.goto 624, 3) := by decide +kernel
theorem dL_law_3011 : decode cL_law 3011 = .ok (.aload_n 1, 1) := by decide +kernel
theorem dL_law_3012 : decode cL_law 3012 = .ok (.aload_n 0, 1) := by decide +kernel
theorem dL_law_3013 : decode cL_law 3013 = .ok (.iload 4, 2) := by decide +kernel
theorem dL_law_3015 : decode cL_law 3015 = .ok (.iconst 1, 1) := by decide +kernel
theorem dL_law_3016 : decode cL_law 3016 = .ok (.iadd, 1) := by decide +kernel
theorem dL_law_3017 : decode cL_law 3017 = .ok (.iaload, 1) := by decide +kernel
theorem dL_law_3018 : decode cL_law 3018 = .ok (.aload_n 0, 1) := by decide +kernel
theorem dL_law_3019 : decode cL_law 3019 = .ok (.iload 4, 2) := by decide +kernel
theorem dL_law_3021 : decode cL_law 3021 = .ok (.iconst 2, 1) := by decide +kernel
theorem dL_law_3022 : decode cL_law 3022 = .ok (.iadd, 1) := by decide +kernel
theorem dL_law_3023 : decode cL_law 3023 = .ok (.iaload, 1) := by decide +kernel
theorem dL_law_3024 : decode cL_law 3024 = .ok (.aload_n 3, 1) := by decide +kernel
theorem dL_law_3025 : decode cL_law 3025 = .ok (.invokestatic 362, 3) := by decide +kernel
theorem dL_law_3028 : decode cL_law 3028 = .ok (.istore 5, 2) := by decide +kernel
theorem dL_law_3030 : decode cL_law 3030 = .ok (.aload_n 2, 1) := by decide +kernel
theorem dL_law_3031 : decode cL_law 3031 = .ok (.aload_n 0, 1) := by decide +kernel
theorem dL_law_3032 : decode cL_law 3032 = .ok (.iload 4, 2) := by decide +kernel
theorem dL_law_3034 : decode cL_law 3034 = .ok (.iconst 1, 1) := by decide +kernel
theorem dL_law_3035 : decode cL_law 3035 = .ok (.iadd, 1) := by decide +kernel
theorem dL_law_3036 : decode cL_law 3036 = .ok (.iaload, 1) := by decide +kernel
theorem dL_law_3037 : decode cL_law 3037 = .ok (.aload_n 0, 1) := by decide +kernel
theorem dL_law_3038 : decode cL_law 3038 = .ok (.iload 4, 2) := by decide +kernel
theorem dL_law_3040 : decode cL_law 3040 = .ok (.iconst 2, 1) := by decide +kernel
theorem dL_law_3041 : decode cL_law 3041 = .ok (.iadd, 1) := by decide +kernel
theorem dL_law_3042 : decode cL_law 3042 = .ok (.iaload, 1) := by decide +kernel
theorem dL_law_3043 : decode cL_law 3043 = .ok (.invokevirtual 364, 3) := by decide +kernel
theorem dL_law_3046 : decode cL_law 3046 = .ok (.istore 6, 2) := by decide +kernel
theorem dL_law_3048 : decode cL_law 3048 = .ok (.aload_n 2, 1) := by decide +kernel
theorem dL_law_3049 : decode cL_law 3049 = .ok (.invokevirtual 180, 3) := by decide +kernel
theorem dL_law_3052 : decode cL_law 3052 = .ok (.iload 5, 2) := by decide +kernel
theorem dL_law_3054 : decode cL_law 3054 = .ok (.if_icmp .eq 5, 3) := by decide +kernel
theorem tLaw26 {LL : Nat} {xs : Nat → Int32} {N : Nat} : z_AllE (zX1 LL xs N) 1665 (zLK26 LL xs N) :=
  z_ac (j := 1666) rfl (zx_W dL_law_2957 wl_1235 qL_addTraveller (by decide +kernel) rfl) <|
  z_ac (j := 1667) rfl (zx_I (sp_istore dL_law_2960 (by decide) (fun j hj => by have e : j = 4 := (by omega); subst e; rfl) rfl)) <|
  z_ac (j := 1668) rfl (zx_I (sp_aload_n (q := 2) dL_law_2962 rfl rfl)) <|
  z_ac (j := 1669) rfl (zx_I (sp_aload_n (q := 0) dL_law_2963 rfl rfl)) <|
  z_ac (j := 1670) rfl (zx_I (sp_iload dL_law_2964 rfl)) <|
  z_ac (j := 1671) rfl (zx_I (sp_iconst dL_law_2966 (by decide +kernel) rfl)) <|
  z_ac (j := 1672) rfl (zx_I (sp_iadd dL_law_2967 rfl)) <|
  z_ac (j := 1673) rfl (zx_I (sp_sld dL_law_2968 rfl)) <|
  z_ac (j := 1674) rfl (zx_I (sp_aload_n (q := 0) dL_law_2969 rfl rfl)) <|
  z_ac (j := 1675) rfl (zx_I (sp_iload dL_law_2970 rfl)) <|
  z_ac (j := 1676) rfl (zx_I (sp_iconst dL_law_2972 (by decide +kernel) rfl)) <|
  z_ac (j := 1677) rfl (zx_I (sp_iadd dL_law_2973 rfl)) <|
  z_ac (j := 1678) rfl (zx_I (sp_sld dL_law_2974 rfl)) <|
  z_ac (j := 1679) rfl (zx_V dL_law_2975 wl_1875 qX9_addTraveller (by decide +kernel) ⟨_, _, rfl⟩ rfl) <|
  z_ac (j := 1680) rfl (zx_I (sp_istoreK dL_law_2978 (by decide) (by decide) rfl)) <|
  z_ac (j := 1681) rfl (zx_I (sp_aload_n (q := 2) dL_law_2980 rfl rfl)) <|
  z_ac (j := 1682) rfl (zx_V dL_law_2981 wl_1416 qX9_thrown (by decide +kernel) ⟨_, _, rfl⟩ rfl) <|
  z_ac (j := 1683) rfl (zx_I (sp_iload dL_law_2984 rfl)) <|
  z_ac (j := 1684) rfl (zx_I (sp_icmp_eq dL_law_2986 rfl rfl)) <|
  z_ac (j := 1685) rfl (zx_I (sp_iconst dL_law_2989 (by decide +kernel) rfl)) <|
  z_ac (j := 1686) rfl (zx_R (sr_bool dL_law_2990 rfl)) <|
  z_ac (j := 1687) rfl (zx_I (sp_iload dL_law_2991 rfl)) <|
  z_ac (j := 1688) rfl (zx_I (sp_if_ne dL_law_2993 rfl rfl)) <|
  z_ac (j := 1689) rfl (zx_I (sp_aload_n (q := 3) dL_law_2996 rfl rfl)) <|
  z_ac (j := 1690) rfl (zx_I (sp_iconst dL_law_2997 (by decide +kernel) rfl)) <|
  z_ac (j := 1691) rfl (zx_I (sp_lald dL_law_2998 rfl)) <|
  z_ac (j := 1692) rfl (zx_I (sp_iload dL_law_2999 rfl)) <|
  z_ac (j := 1693) rfl (zx_I (sp_i2l dL_law_3001 rfl)) <|
  z_ac (j := 1694) rfl (zx_I (sp_lcmp dL_law_3002 rfl)) <|
  z_ac (j := 1695) rfl (zx_I (sp_if_eq dL_law_3003 rfl rfl)) <|
  z_ac (j := 1696) rfl (zx_I (sp_iconst dL_law_3006 (by decide +kernel) rfl)) <|
  z_ac (j := 1697) rfl (zx_R (sr_bool dL_law_3007 rfl)) <|
  z_ac (j := 1698) rfl (zx_I (sp_goto dL_law_3008 rfl)) <|
  z_ac (j := 1699) rfl (zx_I (sp_aload_n (q := 1) dL_law_3011 rfl rfl)) <|
  z_ac (j := 1700) rfl (zx_I (sp_aload_n (q := 0) dL_law_3012 rfl rfl)) <|
  z_ac (j := 1701) rfl (zx_I (sp_iload dL_law_3013 rfl)) <|
  z_ac (j := 1702) rfl (zx_I (sp_iconst dL_law_3015 (by decide +kernel) rfl)) <|
  z_ac (j := 1703) rfl (zx_I (sp_iadd dL_law_3016 rfl)) <|
  z_ac (j := 1704) rfl (zx_I (sp_sld dL_law_3017 rfl)) <|
  z_ac (j := 1705) rfl (zx_I (sp_aload_n (q := 0) dL_law_3018 rfl rfl)) <|
  z_ac (j := 1706) rfl (zx_I (sp_iload dL_law_3019 rfl)) <|
  z_ac (j := 1707) rfl (zx_I (sp_iconst dL_law_3021 (by decide +kernel) rfl)) <|
  z_ac (j := 1708) rfl (zx_I (sp_iadd dL_law_3022 rfl)) <|
  z_ac (j := 1709) rfl (zx_I (sp_sld dL_law_3023 rfl)) <|
  z_ac (j := 1710) rfl (zx_I (sp_aload_n (q := 3) dL_law_3024 rfl rfl)) <|
  z_ac (j := 1711) rfl (zx_W dL_law_3025 wl_1245 qL_setSuccessor (by decide +kernel) rfl) <|
  z_ac (j := 1712) rfl (zx_I (sp_istore dL_law_3028 (by decide) (fun j hj => by have e : j = 4 := (by omega); subst e; rfl) rfl)) <|
  z_ac (j := 1713) rfl (zx_I (sp_aload_n (q := 2) dL_law_3030 rfl rfl)) <|
  z_ac (j := 1714) rfl (zx_I (sp_aload_n (q := 0) dL_law_3031 rfl rfl)) <|
  z_ac (j := 1715) rfl (zx_I (sp_iload dL_law_3032 rfl)) <|
  z_ac (j := 1716) rfl (zx_I (sp_iconst dL_law_3034 (by decide +kernel) rfl)) <|
  z_ac (j := 1717) rfl (zx_I (sp_iadd dL_law_3035 rfl)) <|
  z_ac (j := 1718) rfl (zx_I (sp_sld dL_law_3036 rfl)) <|
  z_ac (j := 1719) rfl (zx_I (sp_aload_n (q := 0) dL_law_3037 rfl rfl)) <|
  z_ac (j := 1720) rfl (zx_I (sp_iload dL_law_3038 rfl)) <|
  z_ac (j := 1721) rfl (zx_I (sp_iconst dL_law_3040 (by decide +kernel) rfl)) <|
  z_ac (j := 1722) rfl (zx_I (sp_iadd dL_law_3041 rfl)) <|
  z_ac (j := 1723) rfl (zx_I (sp_sld dL_law_3042 rfl)) <|
  z_ac (j := 1724) rfl (zx_V dL_law_3043 wl_1879 qX9_setSuccessor (by decide +kernel) ⟨_, _, rfl⟩ rfl) <|
  z_ac (j := 1725) rfl (zx_I (sp_istoreK dL_law_3046 (by decide) (by decide) rfl)) <|
  z_ac (j := 1726) rfl (zx_I (sp_aload_n (q := 2) dL_law_3048 rfl rfl)) <|
  z_ac (j := 1727) rfl (zx_V dL_law_3049 wl_1416 qX9_thrown (by decide +kernel) ⟨_, _, rfl⟩ rfl) <|
  z_ac (j := 1728) rfl (zx_I (sp_iload dL_law_3052 rfl)) <|
  z_ac (j := 1729) rfl (zx_I (sp_icmp_eq dL_law_3054 rfl rfl)) <| z_an
