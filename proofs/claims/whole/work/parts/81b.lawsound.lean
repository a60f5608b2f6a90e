/-! The law itself: each entry is sound (printed by wip/whole/gen80.py). -/
theorem wl_1010 : Cond.methodLink "FalseLightMarshLaw" 253 yL_lightRow ∈ zTs := z_in (i := 1010) (by decide +kernel) (by decide +kernel)
theorem wl_1020 : Cond.methodLink "FalseLightMarshLaw" 256 yL_brightness ∈ zTs := z_in (i := 1020) (by decide +kernel) (by decide +kernel)
theorem wl_1027 : Cond.methodLink "FalseLightMarshLaw" 259 yL_isTrueLight ∈ zTs := z_in (i := 1027) (by decide +kernel) (by decide +kernel)
theorem wl_1035 : Cond.methodLink "FalseLightMarshLaw" 262 yL_hasSuccessor ∈ zTs := z_in (i := 1035) (by decide +kernel) (by decide +kernel)
theorem wl_1042 : Cond.methodLink "FalseLightMarshLaw" 265 yL_successor ∈ zTs := z_in (i := 1042) (by decide +kernel) (by decide +kernel)
theorem wl_1054 : Cond.methodLink "FalseLightMarshLaw" 268 yL_followers ∈ zTs := z_in (i := 1054) (by decide +kernel) (by decide +kernel)
theorem wl_1065 : Cond.methodLink "FalseLightMarshLaw" 271 yL_leadsAstray ∈ zTs := z_in (i := 1065) (by decide +kernel) (by decide +kernel)
theorem wl_1078 : Cond.methodLink "FalseLightMarshLaw" 278 yL_travellerColumn ∈ zTs := z_in (i := 1078) (by decide +kernel) (by decide +kernel)
theorem wl_1090 : Cond.methodLink "FalseLightMarshLaw" 281 yL_travellerRow ∈ zTs := z_in (i := 1090) (by decide +kernel) (by decide +kernel)
theorem wl_1097 : Cond.methodLink "FalseLightMarshLaw" 284 yL_isWalking ∈ zTs := z_in (i := 1097) (by decide +kernel) (by decide +kernel)
theorem wl_1104 : Cond.methodLink "FalseLightMarshLaw" 287 yL_hasArrived ∈ zTs := z_in (i := 1104) (by decide +kernel) (by decide +kernel)
theorem wl_1111 : Cond.methodLink "FalseLightMarshLaw" 290 yL_hasSunk ∈ zTs := z_in (i := 1111) (by decide +kernel) (by decide +kernel)
theorem wl_1118 : Cond.methodLink "FalseLightMarshLaw" 293 yL_stepsTaken ∈ zTs := z_in (i := 1118) (by decide +kernel) (by decide +kernel)
theorem wl_1125 : Cond.methodLink "FalseLightMarshLaw" 296 yL_hasTarget ∈ zTs := z_in (i := 1125) (by decide +kernel) (by decide +kernel)
theorem wl_1132 : Cond.methodLink "FalseLightMarshLaw" 299 yL_target ∈ zTs := z_in (i := 1132) (by decide +kernel) (by decide +kernel)
theorem wl_1646 : Cond.methodLink "FalseLightMarshLaw" 252 yX9_lightColumn ∈ zTs := z_in (i := 1646) (by decide +kernel) (by decide +kernel)
theorem wl_1658 : Cond.methodLink "FalseLightMarshLaw" 255 yX9_lightRow ∈ zTs := z_in (i := 1658) (by decide +kernel) (by decide +kernel)
theorem wl_1662 : Cond.methodLink "FalseLightMarshLaw" 258 yX9_brightness ∈ zTs := z_in (i := 1662) (by decide +kernel) (by decide +kernel)
theorem wl_1666 : Cond.methodLink "FalseLightMarshLaw" 261 yX9_isTrueLight ∈ zTs := z_in (i := 1666) (by decide +kernel) (by decide +kernel)
theorem wl_1670 : Cond.methodLink "FalseLightMarshLaw" 264 yX9_hasSuccessor ∈ zTs := z_in (i := 1670) (by decide +kernel) (by decide +kernel)
theorem wl_1674 : Cond.methodLink "FalseLightMarshLaw" 267 yX9_successor ∈ zTs := z_in (i := 1674) (by decide +kernel) (by decide +kernel)
theorem wl_1678 : Cond.methodLink "FalseLightMarshLaw" 270 yX9_followers ∈ zTs := z_in (i := 1678) (by decide +kernel) (by decide +kernel)
theorem wl_1682 : Cond.methodLink "FalseLightMarshLaw" 273 yX9_leadsAstray ∈ zTs := z_in (i := 1682) (by decide +kernel) (by decide +kernel)
theorem wl_1692 : Cond.methodLink "FalseLightMarshLaw" 277 yX9_travellerCount ∈ zTs := z_in (i := 1692) (by decide +kernel) (by decide +kernel)
theorem wl_1696 : Cond.methodLink "FalseLightMarshLaw" 280 yX9_travellerColumn ∈ zTs := z_in (i := 1696) (by decide +kernel) (by decide +kernel)
theorem wl_1708 : Cond.methodLink "FalseLightMarshLaw" 283 yX9_travellerRow ∈ zTs := z_in (i := 1708) (by decide +kernel) (by decide +kernel)
theorem wl_1712 : Cond.methodLink "FalseLightMarshLaw" 286 yX9_isWalking ∈ zTs := z_in (i := 1712) (by decide +kernel) (by decide +kernel)
theorem wl_1720 : Cond.methodLink "FalseLightMarshLaw" 289 yX9_hasArrived ∈ zTs := z_in (i := 1720) (by decide +kernel) (by decide +kernel)
theorem wl_1724 : Cond.methodLink "FalseLightMarshLaw" 292 yX9_hasSunk ∈ zTs := z_in (i := 1724) (by decide +kernel) (by decide +kernel)
theorem wl_1728 : Cond.methodLink "FalseLightMarshLaw" 295 yX9_stepsTaken ∈ zTs := z_in (i := 1728) (by decide +kernel) (by decide +kernel)
theorem wl_1732 : Cond.methodLink "FalseLightMarshLaw" 298 yX9_hasTarget ∈ zTs := z_in (i := 1732) (by decide +kernel) (by decide +kernel)
theorem wl_1736 : Cond.methodLink "FalseLightMarshLaw" 301 yX9_target ∈ zTs := z_in (i := 1736) (by decide +kernel) (by decide +kernel)
theorem wl_590 : Cond.methodLink "FalseLightMarshLaw" 274 yX8_travellerCount ∈ zTs := z_in (i := 590) (by decide +kernel) (by decide +kernel)
theorem dL_law_1192 : decode cL_law 1192 = .ok (.iaload, 1) := by decide +kernel
theorem dL_law_1193 : decode cL_law 1193 = .ok (.invokevirtual 252, 3) := by decide +kernel
theorem dL_law_1196 : decode cL_law 1196 = .ok (.istore 6, 2) := by decide +kernel
theorem dL_law_1198 : decode cL_law 1198 = .ok (.aload_n 2, 1) := by decide +kernel
theorem dL_law_1199 : decode cL_law 1199 = .ok (.invokevirtual 180, 3) := by decide +kernel
theorem dL_law_1202 : decode cL_law 1202 = .ok (.iload 5, 2) := by decide +kernel
theorem dL_law_1204 : decode cL_law 1204 = .ok (.if_icmp .eq 5, 3) := by decide +kernel
theorem dL_law_1207 : decode cL_law 1207 = .ok (.iconst 0, 1) := by decide +kernel
theorem dL_law_1208 : decode cL_law 1208 = .ok (.ireturn, 1) := by decide +kernel
theorem dL_law_1209 : decode cL_law 1209 = .ok (.iload 5, 2) := by decide +kernel
theorem dL_law_1211 : decode cL_law 1211 = .ok (.ifCond .ne 15, 3) := by decide +kernel
theorem dL_law_1214 : decode cL_law 1214 = .ok (.aload_n 3, 1) := by decide +kernel
theorem dL_law_1215 : decode cL_law 1215 = .ok (.iconst 0, 1) := by decide +kernel
theorem dL_law_1216 : decode cL_law 1216 = .ok (.laload, 1) := by decide +kernel
theorem dL_law_1217 : decode cL_law 1217 = .ok (.iload 6, 2) := by decide +kernel
theorem dL_law_1219 : decode cL_law 1219 = .ok (.i2l, 1) := by decide +kernel
theorem dL_law_1220 : decode cL_law 1220 = .ok (.lcmp, 1) := by decide +kernel
theorem dL_law_1221 : decode cL_law 1221 = .ok (.ifCond .eq 5, 3) := by decide +kernel
theorem dL_law_1224 : decode cL_law 1224 = .ok (.iconst 0, 1) := by decide +kernel
theorem dL_law_1225 : decode cL_law 1225 = .ok (.ireturn, 1) := by decide +kernel
theorem dL_law_1226 : decode cL_law 1226 = .ok (.goto 2406, 3) := by decide +kernel
theorem dL_law_1229 : decode cL_law 1229 = .ok (.aload_n 1, 1) := by decide +kernel
theorem dL_law_1230 : decode cL_law 1230 = .ok (.aload_n 0, 1) := by decide +kernel
theorem dL_law_1231 : decode cL_law 1231 = .ok (.iload 4, 2) := by decide +kernel
theorem dL_law_1233 : decode cL_law 1233 = .ok (.iconst 1, 1) := by decide +kernel
theorem dL_law_1234 : decode cL_law 1234 = .ok (.iadd, 1) := by decide +kernel
theorem dL_law_1235 : decode cL_law 1235 = .ok (.iaload, 1) := by decide +kernel
theorem dL_law_1236 : decode cL_law 1236 = .ok (.aload_n 3, 1) := by decide +kernel
theorem dL_law_1237 : decode cL_law 1237 = .ok (.invokestatic 253, 3) := by decide +kernel
theorem dL_law_1240 : decode cL_law 1240 = .ok (.istore 5, 2) := by decide +kernel
theorem dL_law_1242 : decode cL_law 1242 = .ok (.aload_n 2, 1) := by decide +kernel
theorem dL_law_1243 : decode cL_law 1243 = .ok (.aload_n 0, 1) := by decide +kernel
theorem dL_law_1244 : decode cL_law 1244 = .ok (.iload 4, 2) := by decide +kernel
theorem dL_law_1246 : decode cL_law 1246 = .ok (.iconst 1, 1) := by decide +kernel
theorem dL_law_1247 : decode cL_law 1247 = .ok (.iadd, 1) := by decide +kernel
theorem dL_law_1248 : decode cL_law 1248 = .ok (.iaload, 1) := by decide +kernel
theorem dL_law_1249 : decode cL_law 1249 = .ok (.invokevirtual 255, 3) := by decide +kernel
theorem dL_law_1252 : decode cL_law 1252 = .ok (.istore 6, 2) := by decide +kernel
theorem dL_law_1254 : decode cL_law 1254 = .ok (.aload_n 2, 1) := by decide +kernel
theorem dL_law_1255 : decode cL_law 1255 = .ok (.invokevirtual 180, 3) := by decide +kernel
theorem dL_law_1258 : decode cL_law 1258 = .ok (.iload 5, 2) := by decide +kernel
theorem dL_law_1260 : decode cL_law 1260 = .ok (.if_icmp .eq 5, 3) := by decide +kernel
theorem dL_law_1263 : decode cL_law 1263 = .ok (.iconst 0, 1) := by decide +kernel
theorem dL_law_1264 : decode cL_law 1264 = .ok (.ireturn, 1) := by decide +kernel
theorem dL_law_1265 : decode cL_law 1265 = .ok (.iload 5, 2) := by decide +kernel
theorem dL_law_1267 : decode cL_law 1267 = .ok (.ifCond .ne 15, 3) := by decide +kernel
theorem dL_law_1270 : decode cL_law 1270 = .ok (.aload_n 3, 1) := by decide +kernel
theorem dL_law_1271 : decode cL_law 1271 = .ok (.iconst 0, 1) := by decide +kernel
theorem dL_law_1272 : decode cL_law 1272 = .ok (.laload, 1) := by decide +kernel
theorem dL_law_1273 : decode cL_law 1273 = .ok (.iload 6, 2) := by decide +kernel
theorem dL_law_1275 : decode cL_law 1275 = .ok (.i2l, 1) := by decide +kernel
theorem dL_law_1276 : decode cL_law 1276 = .ok (.lcmp, 1) := by decide +kernel
theorem dL_law_1277 : decode cL_law 1277 = .ok (.ifCond .eq 5, 3) := by decide +kernel
theorem dL_law_1280 : decode cL_law 1280 = .ok (.iconst 0, 1) := by decide +kernel
theorem dL_law_1281 : decode cL_law 1281 = .ok (.ireturn, 1) := by decide +kernel
theorem dL_law_1282 : decode cL_law 1282 = .ok (.goto 2350, 3) := by decide +kernel
theorem dL_law_1285 : decode cL_law 1285 = .ok (.aload_n 1, 1) := by decide +kernel
theorem dL_law_1286 : decode cL_law 1286 = .ok (.aload_n 0, 1) := by decide +kernel
theorem dL_law_1287 : decode cL_law 1287 = .ok (.iload 4, 2) := by decide +kernel
theorem dL_law_1289 : decode cL_law 1289 = .ok (.iconst 1, 1) := by decide +kernel
theorem dL_law_1290 : decode cL_law 1290 = .ok (.iadd, 1) := by decide +kernel
theorem dL_law_1291 : decode cL_law 1291 = .ok (.iaload, 1) := by decide +kernel
theorem dL_law_1292 : decode cL_law 1292 = .ok (.aload_n 3, 1) := by decide +kernel
theorem dL_law_1293 : decode cL_law 1293 = .ok (.invokestatic 256, 3) := by decide +kernel
theorem tLaw9 {LL : Nat} {xs : Nat → Int32} {N : Nat} : z_AllE (zX1 LL xs N) 577 (zLK9 LL xs N) :=
  z_ac (j := 578) rfl (zx_I (sp_sld dL_law_1192 rfl)) <|
  z_ac (j := 579) rfl (zx_V dL_law_1193 wl_1646 qX9_lightColumn (by decide +kernel) ⟨_, _, rfl⟩ rfl) <|
  z_ac (j := 580) rfl (zx_I (sp_istoreK dL_law_1196 (by decide) (by decide) rfl)) <|
  z_ac (j := 581) rfl (zx_I (sp_aload_n (q := 2) dL_law_1198 rfl rfl)) <|
  z_ac (j := 582) rfl (zx_V dL_law_1199 wl_1416 qX9_thrown (by decide +kernel) ⟨_, _, rfl⟩ rfl) <|
  z_ac (j := 583) rfl (zx_I (sp_iload dL_law_1202 rfl)) <|
  z_ac (j := 584) rfl (zx_I (sp_icmp_eq dL_law_1204 rfl rfl)) <|
  z_ac (j := 585) rfl (zx_I (sp_iconst dL_law_1207 (by decide +kernel) rfl)) <|
  z_ac (j := 586) rfl (zx_R (sr_bool dL_law_1208 rfl)) <|
  z_ac (j := 587) rfl (zx_I (sp_iload dL_law_1209 rfl)) <|
  z_ac (j := 588) rfl (zx_I (sp_if_ne dL_law_1211 rfl rfl)) <|
  z_ac (j := 589) rfl (zx_I (sp_aload_n (q := 3) dL_law_1214 rfl rfl)) <|
  z_ac (j := 590) rfl (zx_I (sp_iconst dL_law_1215 (by decide +kernel) rfl)) <|
  z_ac (j := 591) rfl (zx_I (sp_lald dL_law_1216 rfl)) <|
  z_ac (j := 592) rfl (zx_I (sp_iload dL_law_1217 rfl)) <|
  z_ac (j := 593) rfl (zx_I (sp_i2l dL_law_1219 rfl)) <|
  z_ac (j := 594) rfl (zx_I (sp_lcmp dL_law_1220 rfl)) <|
  z_ac (j := 595) rfl (zx_I (sp_if_eq dL_law_1221 rfl rfl)) <|
  z_ac (j := 596) rfl (zx_I (sp_iconst dL_law_1224 (by decide +kernel) rfl)) <|
  z_ac (j := 597) rfl (zx_R (sr_bool dL_law_1225 rfl)) <|
  z_ac (j := 598) rfl (zx_I (sp_goto dL_law_1226 rfl)) <|
  z_ac (j := 599) rfl (zx_I (sp_aload_n (q := 1) dL_law_1229 rfl rfl)) <|
  z_ac (j := 600) rfl (zx_I (sp_aload_n (q := 0) dL_law_1230 rfl rfl)) <|
  z_ac (j := 601) rfl (zx_I (sp_iload dL_law_1231 rfl)) <|
  z_ac (j := 602) rfl (zx_I (sp_iconst dL_law_1233 (by decide +kernel) rfl)) <|
  z_ac (j := 603) rfl (zx_I (sp_iadd dL_law_1234 rfl)) <|
  z_ac (j := 604) rfl (zx_I (sp_sld dL_law_1235 rfl)) <|
  z_ac (j := 605) rfl (zx_I (sp_aload_n (q := 3) dL_law_1236 rfl rfl)) <|
  z_ac (j := 606) rfl (zx_W dL_law_1237 wl_1010 qL_lightRow (by decide +kernel) rfl) <|
  z_ac (j := 607) rfl (zx_I (sp_istore dL_law_1240 (by decide) (fun j hj => by have e : j = 4 := (by omega); subst e; rfl) rfl)) <|
  z_ac (j := 608) rfl (zx_I (sp_aload_n (q := 2) dL_law_1242 rfl rfl)) <|
  z_ac (j := 609) rfl (zx_I (sp_aload_n (q := 0) dL_law_1243 rfl rfl)) <|
  z_ac (j := 610) rfl (zx_I (sp_iload dL_law_1244 rfl)) <|
  z_ac (j := 611) rfl (zx_I (sp_iconst dL_law_1246 (by decide +kernel) rfl)) <|
  z_ac (j := 612) rfl (zx_I (sp_iadd dL_law_1247 rfl)) <|
  z_ac (j := 613) rfl (zx_I (sp_sld dL_law_1248 rfl)) <|
  z_ac (j := 614) rfl (zx_V dL_law_1249 wl_1658 qX9_lightRow (by decide +kernel) ⟨_, _, rfl⟩ rfl) <|
  z_ac (j := 615) rfl (zx_I (sp_istoreK dL_law_1252 (by decide) (by decide) rfl)) <|
  z_ac (j := 616) rfl (zx_I (sp_aload_n (q := 2) dL_law_1254 rfl rfl)) <|
  z_ac (j := 617) rfl (zx_V dL_law_1255 wl_1416 qX9_thrown (by decide +kernel) ⟨_, _, rfl⟩ rfl) <|
  z_ac (j := 618) rfl (zx_I (sp_iload dL_law_1258 rfl)) <|
  z_ac (j := 619) rfl (zx_I (sp_icmp_eq dL_law_1260 rfl rfl)) <|
  z_ac (j := 620) rfl (zx_I (sp_iconst dL_law_1263 (by decide +kernel) rfl)) <|
  z_ac (j := 621) rfl (zx_R (sr_bool dL_law_1264 rfl)) <|
  z_ac (j := 622) rfl (zx_I (sp_iload dL_law_1265 rfl)) <|
  z_ac (j := 623) rfl (zx_I (sp_if_ne dL_law_1267 rfl rfl)) <|
  z_ac (j := 624) rfl (zx_I (sp_aload_n (q := 3) dL_law_1270 rfl rfl)) <|
  z_ac (j := 625) rfl (zx_I (sp_iconst dL_law_1271 (by decide +kernel) rfl)) <|
  z_ac (j := 626) rfl (zx_I (sp_lald dL_law_1272 rfl)) <|
  z_ac (j := 627) rfl (zx_I (sp_iload dL_law_1273 rfl)) <|
  z_ac (j := 628) rfl (zx_I (sp_i2l dL_law_1275 rfl)) <|
  z_ac (j := 629) rfl (zx_I (sp_lcmp dL_law_1276 rfl)) <|
  z_ac (j := 630) rfl (zx_I (sp_if_eq dL_law_1277 rfl rfl)) <|
  z_ac (j := 631) rfl (zx_I (sp_iconst dL_law_1280 (by decide +kernel) rfl)) <|
  z_ac (j := 632) rfl (zx_R (sr_bool dL_law_1281 rfl)) <|
  z_ac (j := 633) rfl (zx_I (sp_goto dL_law_1282 rfl)) <|
  z_ac (j := 634) rfl (zx_I (sp_aload_n (q := 1) dL_law_1285 rfl rfl)) <|
  z_ac (j := 635) rfl (zx_I (sp_aload_n (q := 0) dL_law_1286 rfl rfl)) <|
  z_ac (j := 636) rfl (zx_I (sp_iload dL_law_1287 rfl)) <|
  z_ac (j := 637) rfl (zx_I (sp_iconst dL_law_1289 (by decide +kernel) rfl)) <|
  z_ac (j := 638) rfl (zx_I (sp_iadd dL_law_1290 rfl)) <|
  z_ac (j := 639) rfl (zx_I (sp_sld dL_law_1291 rfl)) <|
  z_ac (j := 640) rfl (zx_I (sp_aload_n (q := 3) dL_law_1292 rfl rfl)) <|
  z_ac (j := 641) rfl (zx_W dL_law_1293 wl_1020 qL_brightness (by decide +kernel) rfl) <| z_an
theorem dL_law_1296 : decode cL_law 1296 = .ok (.istore 5, 2) := by decide +kernel
theorem dL_law_1298 : decode cL_law 1298 = .ok (.aload_n 2, 1) := by decide +kernel
theorem dL_law_1299 : decode cL_law 1299 = .ok (.aload_n 0, 1) := by decide +kernel
theorem dL_law_1300 : decode cL_law 1300 = .ok (.iload 4, 2) := by decide +kernel
theorem dL_law_1302 : decode cL_law 1302 = .ok (.iconst 1, 1) := by decide +kernel
theorem dL_law_1303 : decode cL_law 1303 = .ok (.iadd, 1) := by decide +kernel
theorem dL_law_1304 : decode cL_law 1304 = .ok (.iaload, 1) := by decide +kernel
theorem dL_law_1305 : decode cL_law 1305 = .ok (.invokevirtual 258, 3) := by decide +kernel
theorem dL_law_1308 : decode cL_law 1308 = .ok (.istore 6, 2) := by decide +kernel
theorem dL_law_1310 : decode cL_law 1310 = .ok (.aload_n 2, 1) := by decide +kernel
theorem dL_law_1311 : decode cL_law 1311 = .ok (.invokevirtual 180, 3) := by decide +kernel
theorem dL_law_1314 : decode cL_law 1314 = .ok (.iload 5, 2) := by decide +kernel
theorem dL_law_1316 : decode cL_law 1316 = .ok (.if_icmp .eq 5, 3) := by decide +kernel
theorem dL_law_1319 : decode cL_law 1319 = .ok (.iconst 0, 1) := by decide +kernel
theorem dL_law_1320 : decode cL_law 1320 = .ok (.ireturn, 1) := by decide +kernel
theorem dL_law_1321 : decode cL_law 1321 = .ok (.iload 5, 2) := by decide +kernel
theorem dL_law_1323 : decode cL_law 1323 = .ok (.ifCond .ne 15, 3) := by decide +kernel
theorem dL_law_1326 : decode cL_law 1326 = .ok (.aload_n 3, 1) := by decide +kernel
theorem dL_law_1327 : decode cL_law 1327 = .ok (.iconst 0, 1) := by decide +kernel
theorem dL_law_1328 : decode cL_law 1328 = .ok (.laload, 1) := by decide +kernel
theorem dL_law_1329 : decode cL_law 1329 = .ok (.iload 6, 2) := by decide +kernel
theorem dL_law_1331 : decode cL_law 1331 = .ok (.i2l, 1) := by decide +kernel
theorem dL_law_1332 : decode cL_law 1332 = .ok (.lcmp, 1) := by decide +kernel
theorem dL_law_1333 : decode cL_law 1333 = .ok (.ifCond .eq 5, 3) := by decide +kernel
theorem dL_law_1336 : decode cL_law 1336 = .ok (.iconst 0, 1) := by decide +kernel
theorem dL_law_1337 : decode cL_law 1337 = .ok (.ireturn, 1) := by decide +kernel
theorem dL_law_1338 : decode cL_law 1338 = .ok (.goto 2294, 3) := by decide +kernel
theorem dL_law_1341 : decode cL_law 1341 = .ok (.aload_n 1, 1) := by decide +kernel
theorem dL_law_1342 : decode cL_law 1342 = .ok (.aload_n 0, 1) := by decide +kernel
theorem dL_law_1343 : decode cL_law 1343 = .ok (.iload 4, 2) := by decide +kernel
theorem dL_law_1345 : decode cL_law 1345 = .ok (.iconst 1, 1) := by decide +kernel
theorem dL_law_1346 : decode cL_law 1346 = .ok (.iadd, 1) := by decide +kernel
theorem dL_law_1347 : decode cL_law 1347 = .ok (.iaload, 1) := by decide +kernel
theorem dL_law_1348 : decode cL_law 1348 = .ok (.aload_n 3, 1) := by decide +kernel
theorem dL_law_1349 : decode cL_law 1349 = .ok (.invokestatic 259, 3) := by decide +kernel
theorem dL_law_1352 : decode cL_law 1352 = .ok (.istore 5, 2) := by decide +kernel
theorem dL_law_1354 : decode cL_law 1354 = .ok (.aload_n 2, 1) := by decide +kernel
theorem dL_law_1355 : decode cL_law 1355 = .ok (.aload_n 0, 1) := by decide +kernel
theorem dL_law_1356 : decode cL_law 1356 = .ok (.iload 4, 2) := by decide +kernel
theorem dL_law_1358 : decode cL_law 1358 = .ok (.iconst 1, 1) := by decide +kernel
theorem dL_law_1359 : decode cL_law 1359 = .ok (.iadd, 1) := by decide +kernel
theorem dL_law_1360 : decode cL_law 1360 = .ok (.iaload, 1) := by decide +kernel
theorem dL_law_1361 : decode cL_law 1361 = .ok (.invokevirtual 261, 3) := by decide +kernel
theorem dL_law_1364 : decode cL_law 1364 = .ok (.istore 6, 2) := by decide +kernel
theorem dL_law_1366 : decode cL_law 1366 = .ok (.aload_n 2, 1) := by decide +kernel
theorem dL_law_1367 : decode cL_law 1367 = .ok (.invokevirtual 180, 3) := by decide +kernel
theorem dL_law_1370 : decode cL_law 1370 = .ok (.iload 5, 2) := by decide +kernel
theorem dL_law_1372 : decode cL_law 1372 = .ok (.if_icmp .eq 5, 3) := by decide +kernel
theorem dL_law_1375 : decode cL_law 1375 = .ok (.iconst 0, 1) := by decide +kernel
theorem dL_law_1376 : decode cL_law 1376 = .ok (.ireturn, 1) := by decide +kernel
theorem dL_law_1377 : decode cL_law 1377 = .ok (.iload 5, 2) := by decide +kernel
theorem dL_law_1379 : decode cL_law 1379 = .ok (.ifCond .ne 22, 3) := by decide +kernel
theorem dL_law_1382 : decode cL_law 1382 = .ok (.aload_n 3, 1) := by decide +kernel
theorem dL_law_1383 : decode cL_law 1383 = .ok (.iconst 0, 1) := by decide +kernel
theorem dL_law_1384 : decode cL_law 1384 = .ok (.laload, 1) := by decide +kernel
theorem dL_law_1385 : decode cL_law 1385 = .ok (.iload 6, 2) := by decide +kernel
theorem dL_law_1387 : decode cL_law 1387 = .ok (.ifCond .eq 7, 3) := by decide +kernel
theorem dL_law_1390 : decode cL_law 1390 = .ok (.lconst 1, 1) := by decide +kernel
theorem dL_law_1391 : decode cL_law 1391 = .ok (.goto 4, 3) := by decide +kernel
theorem dL_law_1394 : decode cL_law 1394 = .ok (.lconst 0, 1) := by decide +kernel
theorem dL_law_1395 : decode cL_law 1395 = .ok (.lcmp, 1) := by decide +kernel
theorem dL_law_1396 : decode cL_law 1396 = .ok (.ifCond .eq 5, 3) := by decide +kernel
theorem dL_law_1399 : decode cL_law 1399 = .ok (.iconst 0, 1) := by decide +kernel
theorem dL_law_1400 : decode cL_law 1400 = .ok (.ireturn, 1) := by decide +kernel
theorem tLaw10 {LL : Nat} {xs : Nat → Int32} {N : Nat} : z_AllE (zX1 LL xs N) 641 (zLK10 LL xs N) :=
  z_ac (j := 642) rfl (zx_I (sp_istore dL_law_1296 (by decide) (fun j hj => by have e : j = 4 := (by omega); subst e; rfl) rfl)) <|
  z_ac (j := 643) rfl (zx_I (sp_aload_n (q := 2) dL_law_1298 rfl rfl)) <|
  z_ac (j := 644) rfl (zx_I (sp_aload_n (q := 0) dL_law_1299 rfl rfl)) <|
  z_ac (j := 645) rfl (zx_I (sp_iload dL_law_1300 rfl)) <|
  z_ac (j := 646) rfl (zx_I (sp_iconst dL_law_1302 (by decide +kernel) rfl)) <|
  z_ac (j := 647) rfl (zx_I (sp_iadd dL_law_1303 rfl)) <|
  z_ac (j := 648) rfl (zx_I (sp_sld dL_law_1304 rfl)) <|
  z_ac (j := 649) rfl (zx_V dL_law_1305 wl_1662 qX9_brightness (by decide +kernel) ⟨_, _, rfl⟩ rfl) <|
  z_ac (j := 650) rfl (zx_I (sp_istoreK dL_law_1308 (by decide) (by decide) rfl)) <|
  z_ac (j := 651) rfl (zx_I (sp_aload_n (q := 2) dL_law_1310 rfl rfl)) <|
  z_ac (j := 652) rfl (zx_V dL_law_1311 wl_1416 qX9_thrown (by decide +kernel) ⟨_, _, rfl⟩ rfl) <|
  z_ac (j := 653) rfl (zx_I (sp_iload dL_law_1314 rfl)) <|
  z_ac (j := 654) rfl (zx_I (sp_icmp_eq dL_law_1316 rfl rfl)) <|
  z_ac (j := 655) rfl (zx_I (sp_iconst dL_law_1319 (by decide +kernel) rfl)) <|
  z_ac (j := 656) rfl (zx_R (sr_bool dL_law_1320 rfl)) <|
  z_ac (j := 657) rfl (zx_I (sp_iload dL_law_1321 rfl)) <|
  z_ac (j := 658) rfl (zx_I (sp_if_ne dL_law_1323 rfl rfl)) <|
  z_ac (j := 659) rfl (zx_I (sp_aload_n (q := 3) dL_law_1326 rfl rfl)) <|
  z_ac (j := 660) rfl (zx_I (sp_iconst dL_law_1327 (by decide +kernel) rfl)) <|
  z_ac (j := 661) rfl (zx_I (sp_lald dL_law_1328 rfl)) <|
  z_ac (j := 662) rfl (zx_I (sp_iload dL_law_1329 rfl)) <|
  z_ac (j := 663) rfl (zx_I (sp_i2l dL_law_1331 rfl)) <|
  z_ac (j := 664) rfl (zx_I (sp_lcmp dL_law_1332 rfl)) <|
  z_ac (j := 665) rfl (zx_I (sp_if_eq dL_law_1333 rfl rfl)) <|
  z_ac (j := 666) rfl (zx_I (sp_iconst dL_law_1336 (by decide +kernel) rfl)) <|
  z_ac (j := 667) rfl (zx_R (sr_bool dL_law_1337 rfl)) <|
  z_ac (j := 668) rfl (zx_I (sp_goto dL_law_1338 rfl)) <|
  z_ac (j := 669) rfl (zx_I (sp_aload_n (q := 1) dL_law_1341 rfl rfl)) <|
  z_ac (j := 670) rfl (zx_I (sp_aload_n (q := 0) dL_law_1342 rfl rfl)) <|
  z_ac (j := 671) rfl (zx_I (sp_iload dL_law_1343 rfl)) <|
  z_ac (j := 672) rfl (zx_I (sp_iconst dL_law_1345 (by decide +kernel) rfl)) <|
  z_ac (j := 673) rfl (zx_I (sp_iadd dL_law_1346 rfl)) <|
  z_ac (j := 674) rfl (zx_I (sp_sld dL_law_1347 rfl)) <|
  z_ac (j := 675) rfl (zx_I (sp_aload_n (q := 3) dL_law_1348 rfl rfl)) <|
  z_ac (j := 676) rfl (zx_W dL_law_1349 wl_1027 qL_isTrueLight (by decide +kernel) rfl) <|
  z_ac (j := 677) rfl (zx_I (sp_istore dL_law_1352 (by decide) (fun j hj => by have e : j = 4 := (by omega); subst e; rfl) rfl)) <|
  z_ac (j := 678) rfl (zx_I (sp_aload_n (q := 2) dL_law_1354 rfl rfl)) <|
  z_ac (j := 679) rfl (zx_I (sp_aload_n (q := 0) dL_law_1355 rfl rfl)) <|
  z_ac (j := 680) rfl (zx_I (sp_iload dL_law_1356 rfl)) <|
  z_ac (j := 681) rfl (zx_I (sp_iconst dL_law_1358 (by decide +kernel) rfl)) <|
  z_ac (j := 682) rfl (zx_I (sp_iadd dL_law_1359 rfl)) <|
  z_ac (j := 683) rfl (zx_I (sp_sld dL_law_1360 rfl)) <|
  z_ac (j := 684) rfl (zx_V dL_law_1361 wl_1666 qX9_isTrueLight (by decide +kernel) ⟨_, _, rfl⟩ rfl) <|
  z_ac (j := 685) rfl (zx_I (sp_istoreK dL_law_1364 (by decide) (by decide) rfl)) <|
  z_ac (j := 686) rfl (zx_I (sp_aload_n (q := 2) dL_law_1366 rfl rfl)) <|
  z_ac (j := 687) rfl (zx_V dL_law_1367 wl_1416 qX9_thrown (by decide +kernel) ⟨_, _, rfl⟩ rfl) <|
  z_ac (j := 688) rfl (zx_I (sp_iload dL_law_1370 rfl)) <|
  z_ac (j := 689) rfl (zx_I (sp_icmp_eq dL_law_1372 rfl rfl)) <|
  z_ac (j := 690) rfl (zx_I (sp_iconst dL_law_1375 (by decide +kernel) rfl)) <|
  z_ac (j := 691) rfl (zx_R (sr_bool dL_law_1376 rfl)) <|
  z_ac (j := 692) rfl (zx_I (sp_iload dL_law_1377 rfl)) <|
  z_ac (j := 693) rfl (zx_I (sp_if_ne dL_law_1379 rfl rfl)) <|
  z_ac (j := 694) rfl (zx_I (sp_aload_n (q := 3) dL_law_1382 rfl rfl)) <|
  z_ac (j := 695) rfl (zx_I (sp_iconst dL_law_1383 (by decide +kernel) rfl)) <|
  z_ac (j := 696) rfl (zx_I (sp_lald dL_law_1384 rfl)) <|
  z_ac (j := 697) rfl (zx_I (sp_iload dL_law_1385 rfl)) <|
  z_ac (j := 698) rfl (zx_I (sp_if_eq dL_law_1387 rfl rfl)) <|
  z_ac (j := 699) rfl (zx_I (sp_lconst (n := 1) dL_law_1390 (by decide +kernel) rfl)) <|
  z_ac (j := 700) rfl (zx_I (sp_goto dL_law_1391 rfl)) <|
  z_ac (j := 701) rfl (zx_I (sp_lconst (n := 0) dL_law_1394 (by decide +kernel) rfl)) <|
  z_ac (j := 702) rfl (zx_I (sp_lcmp dL_law_1395 rfl)) <|
  z_ac (j := 703) rfl (zx_I (sp_if_eq dL_law_1396 rfl rfl)) <|
  z_ac (j := 704) rfl (zx_I (sp_iconst dL_law_1399 (by decide +kernel) rfl)) <|
  z_ac (j := 705) rfl (zx_R (sr_bool dL_law_1400 rfl)) <| z_an
theorem dL_law_1401 : decode cL_law 1401 = .ok (.goto 2231, 3) := by decide +kernel
theorem dL_law_1404 : decode cL_law 1404 = .ok (.aload_n 1, 1) := by decide +kernel
theorem dL_law_1405 : decode cL_law 1405 = .ok (.aload_n 0, 1) := by decide +kernel
theorem dL_law_1406 : decode cL_law 1406 = .ok (.iload 4, 2) := by decide +kernel
theorem dL_law_1408 : decode cL_law 1408 = .ok (.iconst 1, 1) := by decide +kernel
theorem dL_law_1409 : decode cL_law 1409 = .ok (.iadd, 1) := by decide +kernel
theorem dL_law_1410 : decode cL_law 1410 = .ok (.iaload, 1) := by decide +kernel
theorem dL_law_1411 : decode cL_law 1411 = .ok (.aload_n 3, 1) := by decide +kernel
theorem dL_law_1412 : decode cL_law 1412 = .ok (.invokestatic 262, 3) := by decide +kernel
theorem dL_law_1415 : decode cL_law 1415 = .ok (.istore 5, 2) := by decide +kernel
theorem dL_law_1417 : decode cL_law 1417 = .ok (.aload_n 2, 1) := by decide +kernel
theorem dL_law_1418 : decode cL_law 1418 = .ok (.aload_n 0, 1) := by decide +kernel
theorem dL_law_1419 : decode cL_law 1419 = .ok (.iload 4, 2) := by decide +kernel
theorem dL_law_1421 : decode cL_law 1421 = .ok (.iconst 1, 1) := by decide +kernel
theorem dL_law_1422 : decode cL_law 1422 = .ok (.iadd, 1) := by decide +kernel
theorem dL_law_1423 : decode cL_law 1423 = .ok (.iaload, 1) := by decide +kernel
theorem dL_law_1424 : decode cL_law 1424 = .ok (.invokevirtual 264, 3) := by decide +kernel
theorem dL_law_1427 : decode cL_law 1427 = .ok (.istore 6, 2) := by decide +kernel
theorem dL_law_1429 : decode cL_law 1429 = .ok (.aload_n 2, 1) := by decide +kernel
theorem dL_law_1430 : decode cL_law 1430 = .ok (.invokevirtual 180, 3) := by decide +kernel
theorem dL_law_1433 : decode cL_law 1433 = .ok (.iload 5, 2) := by decide +kernel
theorem dL_law_1435 : decode cL_law 1435 = .ok (.if_icmp .eq 5, 3) := by decide +kernel
theorem dL_law_1438 : decode cL_law 1438 = .ok (.iconst 0, 1) := by decide +kernel
theorem dL_law_1439 : decode cL_law 1439 = .ok (.ireturn, 1) := by decide +kernel
theorem dL_law_1440 : decode cL_law 1440 = .ok (.iload 5, 2) := by decide +kernel
theorem dL_law_1442 : decode cL_law 1442 = .ok (.ifCond .ne 22, 3) := by decide +kernel
theorem dL_law_1445 : decode cL_law 1445 = .ok (.aload_n 3, 1) := by decide +kernel
theorem dL_law_1446 : decode cL_law 1446 = .ok (.iconst 0, 1) := by decide +kernel
theorem dL_law_1447 : decode cL_law 1447 = .ok (.laload, 1) := by decide +kernel
theorem dL_law_1448 : decode cL_law 1448 = .ok (.iload 6, 2) := by decide +kernel
theorem dL_law_1450 : decode cL_law 1450 = .ok (.ifCond .eq 7, 3) := by decide +kernel
theorem dL_law_1453 : decode cL_law 1453 = .ok (.lconst 1, 1) := by decide +kernel
theorem dL_law_1454 : decode cL_law 1454 = .ok (.goto 4, 3) := by decide +kernel
theorem dL_law_1457 : decode cL_law 1457 = .ok (.lconst 0, 1) := by decide +kernel
theorem dL_law_1458 : decode cL_law 1458 = .ok (.lcmp, 1) := by decide +kernel
theorem dL_law_1459 : decode cL_law 1459 = .ok (.ifCond .eq 5, 3) := by decide +kernel
theorem dL_law_1462 : decode cL_law 1462 = .ok (.iconst 0, 1) := by decide +kernel
theorem dL_law_1463 : decode cL_law 1463 = .ok (.ireturn, 1) := by decide +kernel
theorem dL_law_1464 : decode cL_law 1464 = .ok (.goto 2168, 3) := by decide +kernel
theorem dL_law_1467 : decode cL_law 1467 = .ok (.aload_n 1, 1) := by decide +kernel
theorem dL_law_1468 : decode cL_law 1468 = .ok (.aload_n 0, 1) := by decide +kernel
theorem dL_law_1469 : decode cL_law 1469 = .ok (.iload 4, 2) := by decide +kernel
theorem dL_law_1471 : decode cL_law 1471 = .ok (.iconst 1, 1) := by decide +kernel
theorem dL_law_1472 : decode cL_law 1472 = .ok (.iadd, 1) := by decide +kernel
theorem dL_law_1473 : decode cL_law 1473 = .ok (.iaload, 1) := by decide +kernel
theorem dL_law_1474 : decode cL_law 1474 = .ok (.aload_n 3, 1) := by decide +kernel
theorem dL_law_1475 : decode cL_law 1475 = .ok (.invokestatic 265, 3) := by decide +kernel
theorem dL_law_1478 : decode cL_law 1478 = .ok (.istore 5, 2) := by decide +kernel
theorem dL_law_1480 : decode cL_law 1480 = .ok (.aload_n 2, 1) := by decide +kernel
theorem dL_law_1481 : decode cL_law 1481 = .ok (.aload_n 0, 1) := by decide +kernel
theorem dL_law_1482 : decode cL_law 1482 = .ok (.iload 4, 2) := by decide +kernel
theorem dL_law_1484 : decode cL_law 1484 = .ok (.iconst 1, 1) := by decide +kernel
theorem dL_law_1485 : decode cL_law 1485 = .ok (.iadd, 1) := by decide +kernel
theorem dL_law_1486 : decode cL_law 1486 = .ok (.iaload, 1) := by decide +kernel
theorem dL_law_1487 : decode cL_law 1487 = .ok (.invokevirtual 267, 3) := by decide +kernel
theorem dL_law_1490 : decode cL_law 1490 = .ok (.istore 6, 2) := by decide +kernel
theorem dL_law_1492 : decode cL_law 1492 = .ok (.aload_n 2, 1) := by decide +kernel
theorem dL_law_1493 : decode cL_law 1493 = .ok (.invokevirtual 180, 3) := by decide +kernel
theorem dL_law_1496 : decode cL_law 1496 = .ok (.iload 5, 2) := by decide +kernel
theorem dL_law_1498 : decode cL_law 1498 = .ok (.if_icmp .eq 5, 3) := by decide +kernel
theorem dL_law_1501 : decode cL_law 1501 = .ok (.iconst 0, 1) := by decide +kernel
theorem dL_law_1502 : decode cL_law 1502 = .ok (.ireturn, 1) := by decide +kernel
theorem dL_law_1503 : decode cL_law 1503 = .ok (.iload 5, 2) := by decide +kernel
theorem dL_law_1505 : decode cL_law 1505 = .ok (.ifCond .ne 15, 3) := by decide +kernel
theorem tLaw11 {LL : Nat} {xs : Nat → Int32} {N : Nat} : z_AllE (zX1 LL xs N) 705 (zLK11 LL xs N) :=
  z_ac (j := 706) rfl (zx_I (sp_goto dL_law_1401 rfl)) <|
  z_ac (j := 707) rfl (zx_I (sp_aload_n (q := 1) dL_law_1404 rfl rfl)) <|
  z_ac (j := 708) rfl (zx_I (sp_aload_n (q := 0) dL_law_1405 rfl rfl)) <|
  z_ac (j := 709) rfl (zx_I (sp_iload dL_law_1406 rfl)) <|
  z_ac (j := 710) rfl (zx_I (sp_iconst dL_law_1408 (by decide +kernel) rfl)) <|
  z_ac (j := 711) rfl (zx_I (sp_iadd dL_law_1409 rfl)) <|
  z_ac (j := 712) rfl (zx_I (sp_sld dL_law_1410 rfl)) <|
  z_ac (j := 713) rfl (zx_I (sp_aload_n (q := 3) dL_law_1411 rfl rfl)) <|
  z_ac (j := 714) rfl (zx_W dL_law_1412 wl_1035 qL_hasSuccessor (by decide +kernel) rfl) <|
  z_ac (j := 715) rfl (zx_I (sp_istore dL_law_1415 (by decide) (fun j hj => by have e : j = 4 := (by omega); subst e; rfl) rfl)) <|
  z_ac (j := 716) rfl (zx_I (sp_aload_n (q := 2) dL_law_1417 rfl rfl)) <|
  z_ac (j := 717) rfl (zx_I (sp_aload_n (q := 0) dL_law_1418 rfl rfl)) <|
  z_ac (j := 718) rfl (zx_I (sp_iload dL_law_1419 rfl)) <|
  z_ac (j := 719) rfl (zx_I (sp_iconst dL_law_1421 (by decide +kernel) rfl)) <|
  z_ac (j := 720) rfl (zx_I (sp_iadd dL_law_1422 rfl)) <|
  z_ac (j := 721) rfl (zx_I (sp_sld dL_law_1423 rfl)) <|
  z_ac (j := 722) rfl (zx_V dL_law_1424 wl_1670 qX9_hasSuccessor (by decide +kernel) ⟨_, _, rfl⟩ rfl) <|
  z_ac (j := 723) rfl (zx_I (sp_istoreK dL_law_1427 (by decide) (by decide) rfl)) <|
  z_ac (j := 724) rfl (zx_I (sp_aload_n (q := 2) dL_law_1429 rfl rfl)) <|
  z_ac (j := 725) rfl (zx_V dL_law_1430 wl_1416 qX9_thrown (by decide +kernel) ⟨_, _, rfl⟩ rfl) <|
  z_ac (j := 726) rfl (zx_I (sp_iload dL_law_1433 rfl)) <|
  z_ac (j := 727) rfl (zx_I (sp_icmp_eq dL_law_1435 rfl rfl)) <|
  z_ac (j := 728) rfl (zx_I (sp_iconst dL_law_1438 (by decide +kernel) rfl)) <|
  z_ac (j := 729) rfl (zx_R (sr_bool dL_law_1439 rfl)) <|
  z_ac (j := 730) rfl (zx_I (sp_iload dL_law_1440 rfl)) <|
  z_ac (j := 731) rfl (zx_I (sp_if_ne dL_law_1442 rfl rfl)) <|
  z_ac (j := 732) rfl (zx_I (sp_aload_n (q := 3) dL_law_1445 rfl rfl)) <|
  z_ac (j := 733) rfl (zx_I (sp_iconst dL_law_1446 (by decide +kernel) rfl)) <|
  z_ac (j := 734) rfl (zx_I (sp_lald dL_law_1447 rfl)) <|
  z_ac (j := 735) rfl (zx_I (sp_iload dL_law_1448 rfl)) <|
  z_ac (j := 736) rfl (zx_I (sp_if_eq dL_law_1450 rfl rfl)) <|
  z_ac (j := 737) rfl (zx_I (sp_lconst (n := 1) dL_law_1453 (by decide +kernel) rfl)) <|
  z_ac (j := 738) rfl (zx_I (sp_goto dL_law_1454 rfl)) <|
  z_ac (j := 739) rfl (zx_I (sp_lconst (n := 0) dL_law_1457 (by decide +kernel) rfl)) <|
  z_ac (j := 740) rfl (zx_I (sp_lcmp dL_law_1458 rfl)) <|
  z_ac (j := 741) rfl (zx_I (sp_if_eq dL_law_1459 rfl rfl)) <|
  z_ac (j := 742) rfl (zx_I (sp_iconst dL_law_1462 (by decide +kernel) rfl)) <|
  z_ac (j := 743) rfl (zx_R (sr_bool dL_law_1463 rfl)) <|
  z_ac (j := 744) rfl (zx_I (sp_goto dL_law_1464 rfl)) <|
  z_ac (j := 745) rfl (zx_I (sp_aload_n (q := 1) dL_law_1467 rfl rfl)) <|
  z_ac (j := 746) rfl (zx_I (sp_aload_n (q := 0) dL_law_1468 rfl rfl)) <|
  z_ac (j := 747) rfl (zx_I (sp_iload dL_law_1469 rfl)) <|
  z_ac (j := 748) rfl (zx_I (sp_iconst dL_law_1471 (by decide +kernel) rfl)) <|
  z_ac (j := 749) rfl (zx_I (sp_iadd dL_law_1472 rfl)) <|
  z_ac (j := 750) rfl (zx_I (sp_sld dL_law_1473 rfl)) <|
  z_ac (j := 751) rfl (zx_I (sp_aload_n (q := 3) dL_law_1474 rfl rfl)) <|
  z_ac (j := 752) rfl (zx_W dL_law_1475 wl_1042 qL_successor (by decide +kernel) rfl) <|
  z_ac (j := 753) rfl (zx_I (sp_istore dL_law_1478 (by decide) (fun j hj => by have e : j = 4 := (by omega); subst e; rfl) rfl)) <|
  z_ac (j := 754) rfl (zx_I (sp_aload_n (q := 2) dL_law_1480 rfl rfl)) <|
  z_ac (j := 755) rfl (zx_I (sp_aload_n (q := 0) dL_law_1481 rfl rfl)) <|
  z_ac (j := 756) rfl (zx_I (sp_iload dL_law_1482 rfl)) <|
  z_ac (j := 757) rfl (zx_I (sp_iconst dL_law_1484 (by decide +kernel) rfl)) <|
  z_ac (j := 758) rfl (zx_I (sp_iadd dL_law_1485 rfl)) <|
  z_ac (j := 759) rfl (zx_I (sp_sld dL_law_1486 rfl)) <|
  z_ac (j := 760) rfl (zx_V dL_law_1487 wl_1674 qX9_successor (by decide +kernel) ⟨_, _, rfl⟩ rfl) <|
  z_ac (j := 761) rfl (zx_I (sp_istoreK dL_law_1490 (by decide) (by decide) rfl)) <|
  z_ac (j := 762) rfl (zx_I (sp_aload_n (q := 2) dL_law_1492 rfl rfl)) <|
  z_ac (j := 763) rfl (zx_V dL_law_1493 wl_1416 qX9_thrown (by decide +kernel) ⟨_, _, rfl⟩ rfl) <|
  z_ac (j := 764) rfl (zx_I (sp_iload dL_law_1496 rfl)) <|
  z_ac (j := 765) rfl (zx_I (sp_icmp_eq dL_law_1498 rfl rfl)) <|
  z_ac (j := 766) rfl (zx_I (sp_iconst dL_law_1501 (by decide +kernel) rfl)) <|
  z_ac (j := 767) rfl (zx_R (sr_bool dL_law_1502 rfl)) <|
  z_ac (j := 768) rfl (zx_I (sp_iload dL_law_1503 rfl)) <|
  z_ac (j := 769) rfl (zx_I (sp_if_ne dL_law_1505 rfl rfl)) <| z_an
theorem dL_law_1508 : decode cL_law 1508 = .ok (.aload_n 3, 1) := by decide +kernel
theorem dL_law_1509 : decode cL_law 1509 = .ok (.iconst 0, 1) := by decide +kernel
theorem dL_law_1510 : decode cL_law 1510 = .ok (.laload, 1) := by decide +kernel
theorem dL_law_1511 : decode cL_law 1511 = .ok (.iload 6, 2) := by decide +kernel
theorem dL_law_1513 : decode cL_law 1513 = .ok (.i2l, 1) := by decide +kernel
theorem dL_law_1514 : decode cL_law 1514 = .ok (.lcmp, 1) := by decide +kernel
theorem dL_law_1515 : decode cL_law 1515 = .ok (.ifCond .eq 5, 3) := by decide +kernel
theorem dL_law_1518 : decode cL_law 1518 = .ok (.iconst 0, 1) := by decide +kernel
theorem dL_law_1519 : decode cL_law 1519 = .ok (.ireturn, 1) := by decide +kernel
theorem dL_law_1520 : decode cL_law 1520 = .ok (.goto 2112, 3) := by decide +kernel
theorem dL_law_1523 : decode cL_law 1523 = .ok (.aload_n 1, 1) := by decide +kernel
theorem dL_law_1524 : decode cL_law 1524 = .ok (.aload_n 0, 1) := by decide +kernel
theorem dL_law_1525 : decode cL_law 1525 = .ok (.iload 4, 2) := by decide +kernel
theorem dL_law_1527 : decode cL_law 1527 = .ok (.iconst 1, 1) := by decide +kernel
theorem dL_law_1528 : decode cL_law 1528 = .ok (.iadd, 1) := by decide +kernel
theorem dL_law_1529 : decode cL_law 1529 = .ok (.iaload, 1) := by decide +kernel
theorem dL_law_1530 : decode cL_law 1530 = .ok (.aload_n 3, 1) := by decide +kernel
theorem dL_law_1531 : decode cL_law 1531 = .ok (.invokestatic 268, 3) := by decide +kernel
theorem dL_law_1534 : decode cL_law 1534 = .ok (.istore 5, 2) := by decide +kernel
theorem dL_law_1536 : decode cL_law 1536 = .ok (.aload_n 2, 1) := by decide +kernel
theorem dL_law_1537 : decode cL_law 1537 = .ok (.aload_n 0, 1) := by decide +kernel
theorem dL_law_1538 : decode cL_law 1538 = .ok (.iload 4, 2) := by decide +kernel
theorem dL_law_1540 : decode cL_law 1540 = .ok (.iconst 1, 1) := by decide +kernel
theorem dL_law_1541 : decode cL_law 1541 = .ok (.iadd, 1) := by decide +kernel
theorem dL_law_1542 : decode cL_law 1542 = .ok (.iaload, 1) := by decide +kernel
theorem dL_law_1543 : decode cL_law 1543 = .ok (.invokevirtual 270, 3) := by decide +kernel
theorem dL_law_1546 : decode cL_law 1546 = .ok (.istore 6, 2) := by decide +kernel
theorem dL_law_1548 : decode cL_law 1548 = .ok (.aload_n 2, 1) := by decide +kernel
theorem dL_law_1549 : decode cL_law 1549 = .ok (.invokevirtual 180, 3) := by decide +kernel
theorem dL_law_1552 : decode cL_law 1552 = .ok (.iload 5, 2) := by decide +kernel
theorem dL_law_1554 : decode cL_law 1554 = .ok (.if_icmp .eq 5, 3) := by decide +kernel
theorem dL_law_1557 : decode cL_law 1557 = .ok (.iconst 0, 1) := by decide +kernel
theorem dL_law_1558 : decode cL_law 1558 = .ok (.ireturn, 1) := by decide +kernel
theorem dL_law_1559 : decode cL_law 1559 = .ok (.iload 5, 2) := by decide +kernel
theorem dL_law_1561 : decode cL_law 1561 = .ok (.ifCond .ne 15, 3) := by decide +kernel
theorem dL_law_1564 : decode cL_law 1564 = .ok (.aload_n 3, 1) := by decide +kernel
theorem dL_law_1565 : decode cL_law 1565 = .ok (.iconst 0, 1) := by decide +kernel
theorem dL_law_1566 : decode cL_law 1566 = .ok (.laload, 1) := by decide +kernel
theorem dL_law_1567 : decode cL_law 1567 = .ok (.iload 6, 2) := by decide +kernel
theorem dL_law_1569 : decode cL_law 1569 = .ok (.i2l, 1) := by decide +kernel
theorem dL_law_1570 : decode cL_law 1570 = .ok (.lcmp, 1) := by decide +kernel
theorem dL_law_1571 : decode cL_law 1571 = .ok (.ifCond .eq 5, 3) := by decide +kernel
theorem dL_law_1574 : decode cL_law 1574 = .ok (.iconst 0, 1) := by decide +kernel
theorem dL_law_1575 : decode cL_law 1575 = .ok (.ireturn, 1) := by decide +kernel
theorem dL_law_1576 : decode cL_law 1576 = .ok (.goto 2056, 3) := by decide +kernel
theorem dL_law_1579 : decode cL_law 1579 = .ok (.aload_n 1, 1) := by decide +kernel
theorem dL_law_1580 : decode cL_law 1580 = .ok (.aload_n 0, 1) := by decide +kernel
theorem dL_law_1581 : decode cL_law 1581 = .ok (.iload 4, 2) := by decide +kernel
theorem dL_law_1583 : decode cL_law 1583 = .ok (.iconst 1, 1) := by decide +kernel
theorem dL_law_1584 : decode cL_law 1584 = .ok (.iadd, 1) := by decide +kernel
theorem dL_law_1585 : decode cL_law 1585 = .ok (.iaload, 1) := by decide +kernel
theorem dL_law_1586 : decode cL_law 1586 = .ok (.aload_n 3, 1) := by decide +kernel
theorem dL_law_1587 : decode cL_law 1587 = .ok (.invokestatic 271, 3) := by decide +kernel
theorem dL_law_1590 : decode cL_law 1590 = .ok (.istore 5, 2) := by decide +kernel
theorem dL_law_1592 : decode cL_law 1592 = .ok (.aload_n 2, 1) := by decide +kernel
theorem dL_law_1593 : decode cL_law 1593 = .ok (.aload_n 0, 1) := by decide +kernel
theorem dL_law_1594 : decode cL_law 1594 = .ok (.iload 4, 2) := by decide +kernel
theorem dL_law_1596 : decode cL_law 1596 = .ok (.iconst 1, 1) := by decide +kernel
theorem dL_law_1597 : decode cL_law 1597 = .ok (.iadd, 1) := by decide +kernel
theorem dL_law_1598 : decode cL_law 1598 = .ok (.iaload, 1) := by decide +kernel
theorem dL_law_1599 : decode cL_law 1599 = .ok (.invokevirtual 273, 3) := by decide +kernel
theorem dL_law_1602 : decode cL_law 1602 = .ok (.istore 6, 2) := by decide +kernel
theorem dL_law_1604 : decode cL_law 1604 = .ok (.aload_n 2, 1) := by decide +kernel
theorem dL_law_1605 : decode cL_law 1605 = .ok (.invokevirtual 180, 3) := by decide +kernel
theorem tLaw12 {LL : Nat} {xs : Nat → Int32} {N : Nat} : z_AllE (zX1 LL xs N) 769 (zLK12 LL xs N) :=
  z_ac (j := 770) rfl (zx_I (sp_aload_n (q := 3) dL_law_1508 rfl rfl)) <|
  z_ac (j := 771) rfl (zx_I (sp_iconst dL_law_1509 (by decide +kernel) rfl)) <|
  z_ac (j := 772) rfl (zx_I (sp_lald dL_law_1510 rfl)) <|
  z_ac (j := 773) rfl (zx_I (sp_iload dL_law_1511 rfl)) <|
  z_ac (j := 774) rfl (zx_I (sp_i2l dL_law_1513 rfl)) <|
  z_ac (j := 775) rfl (zx_I (sp_lcmp dL_law_1514 rfl)) <|
  z_ac (j := 776) rfl (zx_I (sp_if_eq dL_law_1515 rfl rfl)) <|
  z_ac (j := 777) rfl (zx_I (sp_iconst dL_law_1518 (by decide +kernel) rfl)) <|
  z_ac (j := 778) rfl (zx_R (sr_bool dL_law_1519 rfl)) <|
  z_ac (j := 779) rfl (zx_I (sp_goto dL_law_1520 rfl)) <|
  z_ac (j := 780) rfl (zx_I (sp_aload_n (q := 1) dL_law_1523 rfl rfl)) <|
  z_ac (j := 781) rfl (zx_I (sp_aload_n (q := 0) dL_law_1524 rfl rfl)) <|
  z_ac (j := 782) rfl (zx_I (sp_iload dL_law_1525 rfl)) <|
  z_ac (j := 783) rfl (zx_I (sp_iconst dL_law_1527 (by decide +kernel) rfl)) <|
  z_ac (j := 784) rfl (zx_I (sp_iadd dL_law_1528 rfl)) <|
  z_ac (j := 785) rfl (zx_I (sp_sld dL_law_1529 rfl)) <|
  z_ac (j := 786) rfl (zx_I (sp_aload_n (q := 3) dL_law_1530 rfl rfl)) <|
  z_ac (j := 787) rfl (zx_W dL_law_1531 wl_1054 qL_followers (by decide +kernel) rfl) <|
  z_ac (j := 788) rfl (zx_I (sp_istore dL_law_1534 (by decide) (fun j hj => by have e : j = 4 := (by omega); subst e; rfl) rfl)) <|
  z_ac (j := 789) rfl (zx_I (sp_aload_n (q := 2) dL_law_1536 rfl rfl)) <|
  z_ac (j := 790) rfl (zx_I (sp_aload_n (q := 0) dL_law_1537 rfl rfl)) <|
  z_ac (j := 791) rfl (zx_I (sp_iload dL_law_1538 rfl)) <|
  z_ac (j := 792) rfl (zx_I (sp_iconst dL_law_1540 (by decide +kernel) rfl)) <|
  z_ac (j := 793) rfl (zx_I (sp_iadd dL_law_1541 rfl)) <|
  z_ac (j := 794) rfl (zx_I (sp_sld dL_law_1542 rfl)) <|
  z_ac (j := 795) rfl (zx_V dL_law_1543 wl_1678 qX9_followers (by decide +kernel) ⟨_, _, rfl⟩ rfl) <|
  z_ac (j := 796) rfl (zx_I (sp_istoreK dL_law_1546 (by decide) (by decide) rfl)) <|
  z_ac (j := 797) rfl (zx_I (sp_aload_n (q := 2) dL_law_1548 rfl rfl)) <|
  z_ac (j := 798) rfl (zx_V dL_law_1549 wl_1416 qX9_thrown (by decide +kernel) ⟨_, _, rfl⟩ rfl) <|
  z_ac (j := 799) rfl (zx_I (sp_iload dL_law_1552 rfl)) <|
  z_ac (j := 800) rfl (zx_I (sp_icmp_eq dL_law_1554 rfl rfl)) <|
  z_ac (j := 801) rfl (zx_I (sp_iconst dL_law_1557 (by decide +kernel) rfl)) <|
  z_ac (j := 802) rfl (zx_R (sr_bool dL_law_1558 rfl)) <|
  z_ac (j := 803) rfl (zx_I (sp_iload dL_law_1559 rfl)) <|
  z_ac (j := 804) rfl (zx_I (sp_if_ne dL_law_1561 rfl rfl)) <|
  z_ac (j := 805) rfl (zx_I (sp_aload_n (q := 3) dL_law_1564 rfl rfl)) <|
  z_ac (j := 806) rfl (zx_I (sp_iconst dL_law_1565 (by decide +kernel) rfl)) <|
  z_ac (j := 807) rfl (zx_I (sp_lald dL_law_1566 rfl)) <|
  z_ac (j := 808) rfl (zx_I (sp_iload dL_law_1567 rfl)) <|
  z_ac (j := 809) rfl (zx_I (sp_i2l dL_law_1569 rfl)) <|
  z_ac (j := 810) rfl (zx_I (sp_lcmp dL_law_1570 rfl)) <|
  z_ac (j := 811) rfl (zx_I (sp_if_eq dL_law_1571 rfl rfl)) <|
  z_ac (j := 812) rfl (zx_I (sp_iconst dL_law_1574 (by decide +kernel) rfl)) <|
  z_ac (j := 813) rfl (zx_R (sr_bool dL_law_1575 rfl)) <|
  z_ac (j := 814) rfl (zx_I (sp_goto dL_law_1576 rfl)) <|
  z_ac (j := 815) rfl (zx_I (sp_aload_n (q := 1) dL_law_1579 rfl rfl)) <|
  z_ac (j := 816) rfl (zx_I (sp_aload_n (q := 0) dL_law_1580 rfl rfl)) <|
  z_ac (j := 817) rfl (zx_I (sp_iload dL_law_1581 rfl)) <|
  z_ac (j := 818) rfl (zx_I (sp_iconst dL_law_1583 (by decide +kernel) rfl)) <|
  z_ac (j := 819) rfl (zx_I (sp_iadd dL_law_1584 rfl)) <|
  z_ac (j := 820) rfl (zx_I (sp_sld dL_law_1585 rfl)) <|
  z_ac (j := 821) rfl (zx_I (sp_aload_n (q := 3) dL_law_1586 rfl rfl)) <|
  z_ac (j := 822) rfl (zx_W dL_law_1587 wl_1065 qL_leadsAstray (by decide +kernel) rfl) <|
  z_ac (j := 823) rfl (zx_I (sp_istore dL_law_1590 (by decide) (fun j hj => by have e : j = 4 := (by omega); subst e; rfl) rfl)) <|
  z_ac (j := 824) rfl (zx_I (sp_aload_n (q := 2) dL_law_1592 rfl rfl)) <|
  z_ac (j := 825) rfl (zx_I (sp_aload_n (q := 0) dL_law_1593 rfl rfl)) <|
  z_ac (j := 826) rfl (zx_I (sp_iload dL_law_1594 rfl)) <|
  z_ac (j := 827) rfl (zx_I (sp_iconst dL_law_1596 (by decide +kernel) rfl)) <|
  z_ac (j := 828) rfl (zx_I (sp_iadd dL_law_1597 rfl)) <|
  z_ac (j := 829) rfl (zx_I (sp_sld dL_law_1598 rfl)) <|
  z_ac (j := 830) rfl (zx_V dL_law_1599 wl_1682 qX9_leadsAstray (by decide +kernel) ⟨_, _, rfl⟩ rfl) <|
  z_ac (j := 831) rfl (zx_I (sp_istoreK dL_law_1602 (by decide) (by decide) rfl)) <|
  z_ac (j := 832) rfl (zx_I (sp_aload_n (q := 2) dL_law_1604 rfl rfl)) <|
  z_ac (j := 833) rfl (zx_V dL_law_1605 wl_1416 qX9_thrown (by decide +kernel) ⟨_, _, rfl⟩ rfl) <| z_an
theorem dL_law_1608 : decode cL_law 1608 = .ok (.iload 5, 2) := by decide +kernel
theorem dL_law_1610 : decode cL_law 1610 = .ok (.if_icmp .eq 5, 3) := by decide +kernel
theorem dL_law_1613 : decode cL_law 1613 = .ok (.iconst 0, 1) := by decide +kernel
theorem dL_law_1614 : decode cL_law 1614 = .ok (.ireturn, 1) := by decide +kernel
theorem dL_law_1615 : decode cL_law 1615 = .ok (.iload 5, 2) := by decide +kernel
theorem dL_law_1617 : decode cL_law 1617 = .ok (.ifCond .ne 22, 3) := by decide +kernel
theorem dL_law_1620 : decode cL_law 1620 = .ok (.aload_n 3, 1) := by decide +kernel
theorem dL_law_1621 : decode cL_law 1621 = .ok (.iconst 0, 1) := by decide +kernel
theorem dL_law_1622 : decode cL_law 1622 = .ok (.laload, 1) := by decide +kernel
theorem dL_law_1623 : decode cL_law 1623 = .ok (.iload 6, 2) := by decide +kernel
theorem dL_law_1625 : decode cL_law 1625 = .ok (.ifCond .eq 7, 3) := by decide +kernel
theorem dL_law_1628 : decode cL_law 1628 = .ok (.lconst 1, 1) := by decide +kernel
theorem dL_law_1629 : decode cL_law 1629 = .ok (.goto 4, 3) := by decide +kernel
theorem dL_law_1632 : decode cL_law 1632 = .ok (.lconst 0, 1) := by decide +kernel
theorem dL_law_1633 : decode cL_law 1633 = .ok (.lcmp, 1) := by decide +kernel
theorem dL_law_1634 : decode cL_law 1634 = .ok (.ifCond .eq 5, 3) := by decide +kernel
theorem dL_law_1637 : decode cL_law 1637 = .ok (.iconst 0, 1) := by decide +kernel
theorem dL_law_1638 : decode cL_law 1638 = .ok (.ireturn, 1) := by decide +kernel
theorem dL_law_1639 : decode cL_law 1639 = .ok (.goto 1993, 3) := by decide +kernel
theorem dL_law_1642 : decode cL_law 1642 = .ok (.aload_n 1, 1) := by decide +kernel
theorem dL_law_1643 : decode cL_law 1643 = .ok (.invokevirtual 274, 3) := by decide +kernel
theorem dL_law_1646 : decode cL_law 1646 = .ok (.aload_n 2, 1) := by decide +kernel
theorem dL_law_1647 : decode cL_law 1647 = .ok (.invokevirtual 277, 3) := by decide +kernel
theorem dL_law_1650 : decode cL_law 1650 = .ok (.if_icmp .eq 1982, 3) := by decide +kernel
theorem dL_law_1653 : decode cL_law 1653 = .ok (.iconst 0, 1) := by decide +kernel
theorem dL_law_1654 : decode cL_law 1654 = .ok (.ireturn, 1) := by decide +kernel
theorem dL_law_1655 : decode cL_law 1655 = .ok (.aload_n 1, 1) := by decide +kernel
theorem dL_law_1656 : decode cL_law 1656 = .ok (.aload_n 0, 1) := by decide +kernel
theorem dL_law_1657 : decode cL_law 1657 = .ok (.iload 4, 2) := by decide +kernel
theorem dL_law_1659 : decode cL_law 1659 = .ok (.iconst 1, 1) := by decide +kernel
theorem dL_law_1660 : decode cL_law 1660 = .ok (.iadd, 1) := by decide +kernel
theorem dL_law_1661 : decode cL_law 1661 = .ok (.iaload, 1) := by decide +kernel
theorem dL_law_1662 : decode cL_law 1662 = .ok (.aload_n 3, 1) := by decide +kernel
theorem dL_law_1663 : decode cL_law 1663 = .ok (.invokestatic 278, 3) := by decide +kernel
theorem dL_law_1666 : decode cL_law 1666 = .ok (.istore 5, 2) := by decide +kernel
theorem dL_law_1668 : decode cL_law 1668 = .ok (.aload_n 2, 1) := by decide +kernel
theorem dL_law_1669 : decode cL_law 1669 = .ok (.aload_n 0, 1) := by decide +kernel
theorem dL_law_1670 : decode cL_law 1670 = .ok (.iload 4, 2) := by decide +kernel
theorem dL_law_1672 : decode cL_law 1672 = .ok (.iconst 1, 1) := by decide +kernel
theorem dL_law_1673 : decode cL_law 1673 = .ok (.iadd, 1) := by decide +kernel
theorem dL_law_1674 : decode cL_law 1674 = .ok (.iaload, 1) := by decide +kernel
theorem dL_law_1675 : decode cL_law 1675 = .ok (.invokevirtual 280, 3) := by decide +kernel
theorem dL_law_1678 : decode cL_law 1678 = .ok (.istore 6, 2) := by decide +kernel
theorem dL_law_1680 : decode cL_law 1680 = .ok (.aload_n 2, 1) := by decide +kernel
theorem dL_law_1681 : decode cL_law 1681 = .ok (.invokevirtual 180, 3) := by decide +kernel
theorem dL_law_1684 : decode cL_law 1684 = .ok (.iload 5, 2) := by decide +kernel
theorem dL_law_1686 : decode cL_law 1686 = .ok (.if_icmp .eq 5, 3) := by decide +kernel
theorem dL_law_1689 : decode cL_law 1689 = .ok (.iconst 0, 1) := by decide +kernel
theorem dL_law_1690 : decode cL_law 1690 = .ok (.ireturn, 1) := by decide +kernel
theorem dL_law_1691 : decode cL_law 1691 = .ok (.iload 5, 2) := by decide +kernel
theorem dL_law_1693 : decode cL_law 1693 = .ok (.ifCond .ne 15, 3) := by decide +kernel
theorem dL_law_1696 : decode cL_law 1696 = .ok (.aload_n 3, 1) := by decide +kernel
theorem dL_law_1697 : decode cL_law 1697 = .ok (.iconst 0, 1) := by decide +kernel
theorem dL_law_1698 : decode cL_law 1698 = .ok (.laload, 1) := by decide +kernel
theorem dL_law_1699 : decode cL_law 1699 = .ok (.iload 6, 2) := by decide +kernel
theorem dL_law_1701 : decode cL_law 1701 = .ok (.i2l, 1) := by decide +kernel
theorem dL_law_1702 : decode cL_law 1702 = .ok (.lcmp, 1) := by decide +kernel
theorem dL_law_1703 : decode cL_law 1703 = .ok (.ifCond .eq 5, 3) := by decide +kernel
theorem dL_law_1706 : decode cL_law 1706 = .ok (.iconst 0, 1) := by decide +kernel
theorem dL_law_1707 : decode cL_law 1707 = .ok (.ireturn, 1) := by decide +kernel
theorem dL_law_1708 : decode cL_law 1708 = .ok (.goto 1924, 3) := by decide +kernel
theorem dL_law_1711 : decode cL_law 1711 = .ok (.aload_n 1, 1) := by decide +kernel
theorem dL_law_1712 : decode cL_law 1712 = .ok (.aload_n 0, 1) := by decide +kernel
theorem dL_law_1713 : decode cL_law 1713 = .ok (.iload 4, 2) := by decide +kernel
theorem tLaw13 {LL : Nat} {xs : Nat → Int32} {N : Nat} : z_AllE (zX1 LL xs N) 833 (zLK13 LL xs N) :=
  z_ac (j := 834) rfl (zx_I (sp_iload dL_law_1608 rfl)) <|
  z_ac (j := 835) rfl (zx_I (sp_icmp_eq dL_law_1610 rfl rfl)) <|
  z_ac (j := 836) rfl (zx_I (sp_iconst dL_law_1613 (by decide +kernel) rfl)) <|
  z_ac (j := 837) rfl (zx_R (sr_bool dL_law_1614 rfl)) <|
  z_ac (j := 838) rfl (zx_I (sp_iload dL_law_1615 rfl)) <|
  z_ac (j := 839) rfl (zx_I (sp_if_ne dL_law_1617 rfl rfl)) <|
  z_ac (j := 840) rfl (zx_I (sp_aload_n (q := 3) dL_law_1620 rfl rfl)) <|
  z_ac (j := 841) rfl (zx_I (sp_iconst dL_law_1621 (by decide +kernel) rfl)) <|
  z_ac (j := 842) rfl (zx_I (sp_lald dL_law_1622 rfl)) <|
  z_ac (j := 843) rfl (zx_I (sp_iload dL_law_1623 rfl)) <|
  z_ac (j := 844) rfl (zx_I (sp_if_eq dL_law_1625 rfl rfl)) <|
  z_ac (j := 845) rfl (zx_I (sp_lconst (n := 1) dL_law_1628 (by decide +kernel) rfl)) <|
  z_ac (j := 846) rfl (zx_I (sp_goto dL_law_1629 rfl)) <|
  z_ac (j := 847) rfl (zx_I (sp_lconst (n := 0) dL_law_1632 (by decide +kernel) rfl)) <|
  z_ac (j := 848) rfl (zx_I (sp_lcmp dL_law_1633 rfl)) <|
  z_ac (j := 849) rfl (zx_I (sp_if_eq dL_law_1634 rfl rfl)) <|
  z_ac (j := 850) rfl (zx_I (sp_iconst dL_law_1637 (by decide +kernel) rfl)) <|
  z_ac (j := 851) rfl (zx_R (sr_bool dL_law_1638 rfl)) <|
  z_ac (j := 852) rfl (zx_I (sp_goto dL_law_1639 rfl)) <|
  z_ac (j := 853) rfl (zx_I (sp_aload_n (q := 1) dL_law_1642 rfl rfl)) <|
  z_ac (j := 854) rfl (zx_V dL_law_1643 wl_590 qX8_travellerCount (by decide +kernel) ⟨_, _, rfl⟩ rfl) <|
  z_ac (j := 855) rfl (zx_I (sp_aload_n (q := 2) dL_law_1646 rfl rfl)) <|
  z_ac (j := 856) rfl (zx_V dL_law_1647 wl_1692 qX9_travellerCount (by decide +kernel) ⟨_, _, rfl⟩ rfl) <|
  z_ac (j := 857) rfl (zx_I (sp_icmp_eq dL_law_1650 rfl rfl)) <|
  z_ac (j := 858) rfl (zx_I (sp_iconst dL_law_1653 (by decide +kernel) rfl)) <|
  z_ac (j := 859) rfl (zx_R (sr_bool dL_law_1654 rfl)) <|
  z_ac (j := 860) rfl (zx_I (sp_aload_n (q := 1) dL_law_1655 rfl rfl)) <|
  z_ac (j := 861) rfl (zx_I (sp_aload_n (q := 0) dL_law_1656 rfl rfl)) <|
  z_ac (j := 862) rfl (zx_I (sp_iload dL_law_1657 rfl)) <|
  z_ac (j := 863) rfl (zx_I (sp_iconst dL_law_1659 (by decide +kernel) rfl)) <|
  z_ac (j := 864) rfl (zx_I (sp_iadd dL_law_1660 rfl)) <|
  z_ac (j := 865) rfl (zx_I (sp_sld dL_law_1661 rfl)) <|
  z_ac (j := 866) rfl (zx_I (sp_aload_n (q := 3) dL_law_1662 rfl rfl)) <|
  z_ac (j := 867) rfl (zx_W dL_law_1663 wl_1078 qL_travellerColumn (by decide +kernel) rfl) <|
  z_ac (j := 868) rfl (zx_I (sp_istore dL_law_1666 (by decide) (fun j hj => by have e : j = 4 := (by omega); subst e; rfl) rfl)) <|
  z_ac (j := 869) rfl (zx_I (sp_aload_n (q := 2) dL_law_1668 rfl rfl)) <|
  z_ac (j := 870) rfl (zx_I (sp_aload_n (q := 0) dL_law_1669 rfl rfl)) <|
  z_ac (j := 871) rfl (zx_I (sp_iload dL_law_1670 rfl)) <|
  z_ac (j := 872) rfl (zx_I (sp_iconst dL_law_1672 (by decide +kernel) rfl)) <|
  z_ac (j := 873) rfl (zx_I (sp_iadd dL_law_1673 rfl)) <|
  z_ac (j := 874) rfl (zx_I (sp_sld dL_law_1674 rfl)) <|
  z_ac (j := 875) rfl (zx_V dL_law_1675 wl_1696 qX9_travellerColumn (by decide +kernel) ⟨_, _, rfl⟩ rfl) <|
  z_ac (j := 876) rfl (zx_I (sp_istoreK dL_law_1678 (by decide) (by decide) rfl)) <|
  z_ac (j := 877) rfl (zx_I (sp_aload_n (q := 2) dL_law_1680 rfl rfl)) <|
  z_ac (j := 878) rfl (zx_V dL_law_1681 wl_1416 qX9_thrown (by decide +kernel) ⟨_, _, rfl⟩ rfl) <|
  z_ac (j := 879) rfl (zx_I (sp_iload dL_law_1684 rfl)) <|
  z_ac (j := 880) rfl (zx_I (sp_icmp_eq dL_law_1686 rfl rfl)) <|
  z_ac (j := 881) rfl (zx_I (sp_iconst dL_law_1689 (by decide +kernel) rfl)) <|
  z_ac (j := 882) rfl (zx_R (sr_bool dL_law_1690 rfl)) <|
  z_ac (j := 883) rfl (zx_I (sp_iload dL_law_1691 rfl)) <|
  z_ac (j := 884) rfl (zx_I (sp_if_ne dL_law_1693 rfl rfl)) <|
  z_ac (j := 885) rfl (zx_I (sp_aload_n (q := 3) dL_law_1696 rfl rfl)) <|
  z_ac (j := 886) rfl (zx_I (sp_iconst dL_law_1697 (by decide +kernel) rfl)) <|
  z_ac (j := 887) rfl (zx_I (sp_lald dL_law_1698 rfl)) <|
  z_ac (j := 888) rfl (zx_I (sp_iload dL_law_1699 rfl)) <|
  z_ac (j := 889) rfl (zx_I (sp_i2l dL_law_1701 rfl)) <|
  z_ac (j := 890) rfl (zx_I (sp_lcmp dL_law_1702 rfl)) <|
  z_ac (j := 891) rfl (zx_I (sp_if_eq dL_law_1703 rfl rfl)) <|
  z_ac (j := 892) rfl (zx_I (sp_iconst dL_law_1706 (by decide +kernel) rfl)) <|
  z_ac (j := 893) rfl (zx_R (sr_bool dL_law_1707 rfl)) <|
  z_ac (j := 894) rfl (zx_I (sp_goto dL_law_1708 rfl)) <|
  z_ac (j := 895) rfl (zx_I (sp_aload_n (q := 1) dL_law_1711 rfl rfl)) <|
  z_ac (j := 896) rfl (zx_I (sp_aload_n (q := 0) dL_law_1712 rfl rfl)) <|
  z_ac (j := 897) rfl (zx_I (sp_iload dL_law_1713 rfl)) <| z_an
theorem dL_law_1715 : decode cL_law 1715 = .ok (.iconst 1, 1) := by decide +kernel
theorem dL_law_1716 : decode cL_law 1716 = .ok (.iadd, 1) := by decide +kernel
theorem dL_law_1717 : decode cL_law 1717 = .ok (.iaload, 1) := by decide +kernel
theorem dL_law_1718 : decode cL_law 1718 = .ok (.aload_n 3, 1) := by decide +kernel
theorem dL_law_1719 : decode cL_law 1719 = .ok (.invokestatic 281, 3) := by decide +kernel
theorem dL_law_1722 : decode cL_law 1722 = .ok (.istore 5, 2) := by decide +kernel
theorem dL_law_1724 : decode cL_law 1724 = .ok (.aload_n 2, 1) := by decide +kernel
theorem dL_law_1725 : decode cL_law 1725 = .ok (.aload_n 0, 1) := by decide +kernel
theorem dL_law_1726 : decode cL_law 1726 = .ok (.iload 4, 2) := by decide +kernel
theorem dL_law_1728 : decode cL_law 1728 = .ok (.iconst 1, 1) := by decide +kernel
theorem dL_law_1729 : decode cL_law 1729 = .ok (.iadd, 1) := by decide +kernel
theorem dL_law_1730 : decode cL_law 1730 = .ok (.iaload, 1) := by decide +kernel
theorem dL_law_1731 : decode cL_law 1731 = .ok (.invokevirtual 283, 3) := by decide +kernel
theorem dL_law_1734 : decode cL_law 1734 = .ok (.istore 6, 2) := by decide +kernel
theorem dL_law_1736 : decode cL_law 1736 = .ok (.aload_n 2, 1) := by decide +kernel
theorem dL_law_1737 : decode cL_law 1737 = .ok (.invokevirtual 180, 3) := by decide +kernel
theorem dL_law_1740 : decode cL_law 1740 = .ok (.iload 5, 2) := by decide +kernel
theorem dL_law_1742 : decode cL_law 1742 = .ok (.if_icmp .eq 5, 3) := by decide +kernel
theorem dL_law_1745 : decode cL_law 1745 = .ok (.iconst 0, 1) := by decide +kernel
theorem dL_law_1746 : decode cL_law 1746 = .ok (.ireturn, 1) := by decide +kernel
theorem dL_law_1747 : decode cL_law 1747 = .ok (.iload 5, 2) := by decide +kernel
theorem dL_law_1749 : decode cL_law 1749 = .ok (.ifCond .ne 15, 3) := by decide +kernel
theorem dL_law_1752 : decode cL_law 1752 = .ok (.aload_n 3, 1) := by decide +kernel
theorem dL_law_1753 : decode cL_law 1753 = .ok (.iconst 0, 1) := by decide +kernel
theorem dL_law_1754 : decode cL_law 1754 = .ok (.laload, 1) := by decide +kernel
theorem dL_law_1755 : decode cL_law 1755 = .ok (.iload 6, 2) := by decide +kernel
theorem dL_law_1757 : decode cL_law 1757 = .ok (.i2l, 1) := by decide +kernel
theorem dL_law_1758 : decode cL_law 1758 = .ok (.lcmp, 1) := by decide +kernel
theorem dL_law_1759 : decode cL_law 1759 = .ok (.ifCond .eq 5, 3) := by decide +kernel
theorem dL_law_1762 : decode cL_law 1762 = .ok (.iconst 0, 1) := by decide +kernel
theorem dL_law_1763 : decode cL_law 1763 = .ok (.ireturn, 1) := by decide +kernel
theorem dL_law_1764 : decode cL_law 1764 = .ok (.goto 1868, 3) := by decide +kernel
theorem dL_law_1767 : decode cL_law 1767 = .ok (.aload_n 1, 1) := by decide +kernel
theorem dL_law_1768 : decode cL_law 1768 = .ok (.aload_n 0, 1) := by decide +kernel
theorem dL_law_1769 : decode cL_law 1769 = .ok (.iload 4, 2) := by decide +kernel
theorem dL_law_1771 : decode cL_law 1771 = .ok (.iconst 1, 1) := by decide +kernel
theorem dL_law_1772 : decode cL_law 1772 = .ok (.iadd, 1) := by decide +kernel
theorem dL_law_1773 : decode cL_law 1773 = .ok (.iaload, 1) := by decide +kernel
theorem dL_law_1774 : decode cL_law 1774 = .ok (.aload_n 3, 1) := by decide +kernel
theorem dL_law_1775 : decode cL_law 1775 = .ok (.invokestatic 284, 3) := by decide +kernel
theorem dL_law_1778 : decode cL_law 1778 = .ok (.istore 5, 2) := by decide +kernel
theorem dL_law_1780 : decode cL_law 1780 = .ok (.aload_n 2, 1) := by decide +kernel
theorem dL_law_1781 : decode cL_law 1781 = .ok (.aload_n 0, 1) := by decide +kernel
theorem dL_law_1782 : decode cL_law 1782 = .ok (.iload 4, 2) := by decide +kernel
theorem dL_law_1784 : decode cL_law 1784 = .ok (.iconst 1, 1) := by decide +kernel
theorem dL_law_1785 : decode cL_law 1785 = .ok (.iadd, 1) := by decide +kernel
theorem dL_law_1786 : decode cL_law 1786 = .ok (.iaload, 1) := by decide +kernel
theorem dL_law_1787 : decode cL_law 1787 = .ok (.invokevirtual 286, 3) := by decide +kernel
theorem dL_law_1790 : decode cL_law 1790 = .ok (.istore 6, 2) := by decide +kernel
theorem dL_law_1792 : decode cL_law 1792 = .ok (.aload_n 2, 1) := by decide +kernel
theorem dL_law_1793 : decode cL_law 1793 = .ok (.invokevirtual 180, 3) := by decide +kernel
theorem dL_law_1796 : decode cL_law 1796 = .ok (.iload 5, 2) := by decide +kernel
theorem dL_law_1798 : decode cL_law 1798 = .ok (.if_icmp .eq 5, 3) := by decide +kernel
theorem dL_law_1801 : decode cL_law 1801 = .ok (.iconst 0, 1) := by decide +kernel
theorem dL_law_1802 : decode cL_law 1802 = .ok (.ireturn, 1) := by decide +kernel
theorem dL_law_1803 : decode cL_law 1803 = .ok (.iload 5, 2) := by decide +kernel
theorem dL_law_1805 : decode cL_law 1805 = .ok (.ifCond .ne 22, 3) := by decide +kernel
theorem dL_law_1808 : decode cL_law 1808 = .ok (.aload_n 3, 1) := by decide +kernel
theorem dL_law_1809 : decode cL_law 1809 = .ok (.iconst 0, 1) := by decide +kernel
theorem dL_law_1810 : decode cL_law 1810 = .ok (.laload, 1) := by decide +kernel
theorem dL_law_1811 : decode cL_law 1811 = .ok (.iload 6, 2) := by decide +kernel
theorem dL_law_1813 : decode cL_law 1813 = .ok (.ifCond .eq 7, 3) := by decide +kernel
theorem dL_law_1816 : decode cL_law 1816 = .ok (.lconst 1, 1) := by decide +kernel
theorem dL_law_1817 : decode cL_law 1817 = .ok (.goto 4, 3) := by decide +kernel
theorem tLaw14 {LL : Nat} {xs : Nat → Int32} {N : Nat} : z_AllE (zX1 LL xs N) 897 (zLK14 LL xs N) :=
  z_ac (j := 898) rfl (zx_I (sp_iconst dL_law_1715 (by decide +kernel) rfl)) <|
  z_ac (j := 899) rfl (zx_I (sp_iadd dL_law_1716 rfl)) <|
  z_ac (j := 900) rfl (zx_I (sp_sld dL_law_1717 rfl)) <|
  z_ac (j := 901) rfl (zx_I (sp_aload_n (q := 3) dL_law_1718 rfl rfl)) <|
  z_ac (j := 902) rfl (zx_W dL_law_1719 wl_1090 qL_travellerRow (by decide +kernel) rfl) <|
  z_ac (j := 903) rfl (zx_I (sp_istore dL_law_1722 (by decide) (fun j hj => by have e : j = 4 := (by omega); subst e; rfl) rfl)) <|
  z_ac (j := 904) rfl (zx_I (sp_aload_n (q := 2) dL_law_1724 rfl rfl)) <|
  z_ac (j := 905) rfl (zx_I (sp_aload_n (q := 0) dL_law_1725 rfl rfl)) <|
  z_ac (j := 906) rfl (zx_I (sp_iload dL_law_1726 rfl)) <|
  z_ac (j := 907) rfl (zx_I (sp_iconst dL_law_1728 (by decide +kernel) rfl)) <|
  z_ac (j := 908) rfl (zx_I (sp_iadd dL_law_1729 rfl)) <|
  z_ac (j := 909) rfl (zx_I (sp_sld dL_law_1730 rfl)) <|
  z_ac (j := 910) rfl (zx_V dL_law_1731 wl_1708 qX9_travellerRow (by decide +kernel) ⟨_, _, rfl⟩ rfl) <|
  z_ac (j := 911) rfl (zx_I (sp_istoreK dL_law_1734 (by decide) (by decide) rfl)) <|
  z_ac (j := 912) rfl (zx_I (sp_aload_n (q := 2) dL_law_1736 rfl rfl)) <|
  z_ac (j := 913) rfl (zx_V dL_law_1737 wl_1416 qX9_thrown (by decide +kernel) ⟨_, _, rfl⟩ rfl) <|
  z_ac (j := 914) rfl (zx_I (sp_iload dL_law_1740 rfl)) <|
  z_ac (j := 915) rfl (zx_I (sp_icmp_eq dL_law_1742 rfl rfl)) <|
  z_ac (j := 916) rfl (zx_I (sp_iconst dL_law_1745 (by decide +kernel) rfl)) <|
  z_ac (j := 917) rfl (zx_R (sr_bool dL_law_1746 rfl)) <|
  z_ac (j := 918) rfl (zx_I (sp_iload dL_law_1747 rfl)) <|
  z_ac (j := 919) rfl (zx_I (sp_if_ne dL_law_1749 rfl rfl)) <|
  z_ac (j := 920) rfl (zx_I (sp_aload_n (q := 3) dL_law_1752 rfl rfl)) <|
  z_ac (j := 921) rfl (zx_I (sp_iconst dL_law_1753 (by decide +kernel) rfl)) <|
  z_ac (j := 922) rfl (zx_I (sp_lald dL_law_1754 rfl)) <|
  z_ac (j := 923) rfl (zx_I (sp_iload dL_law_1755 rfl)) <|
  z_ac (j := 924) rfl (zx_I (sp_i2l dL_law_1757 rfl)) <|
  z_ac (j := 925) rfl (zx_I (sp_lcmp dL_law_1758 rfl)) <|
  z_ac (j := 926) rfl (zx_I (sp_if_eq dL_law_1759 rfl rfl)) <|
  z_ac (j := 927) rfl (zx_I (sp_iconst dL_law_1762 (by decide +kernel) rfl)) <|
  z_ac (j := 928) rfl (zx_R (sr_bool dL_law_1763 rfl)) <|
  z_ac (j := 929) rfl (zx_I (sp_goto dL_law_1764 rfl)) <|
  z_ac (j := 930) rfl (zx_I (sp_aload_n (q := 1) dL_law_1767 rfl rfl)) <|
  z_ac (j := 931) rfl (zx_I (sp_aload_n (q := 0) dL_law_1768 rfl rfl)) <|
  z_ac (j := 932) rfl (zx_I (sp_iload dL_law_1769 rfl)) <|
  z_ac (j := 933) rfl (zx_I (sp_iconst dL_law_1771 (by decide +kernel) rfl)) <|
  z_ac (j := 934) rfl (zx_I (sp_iadd dL_law_1772 rfl)) <|
  z_ac (j := 935) rfl (zx_I (sp_sld dL_law_1773 rfl)) <|
  z_ac (j := 936) rfl (zx_I (sp_aload_n (q := 3) dL_law_1774 rfl rfl)) <|
  z_ac (j := 937) rfl (zx_W dL_law_1775 wl_1097 qL_isWalking (by decide +kernel) rfl) <|
  z_ac (j := 938) rfl (zx_I (sp_istore dL_law_1778 (by decide) (fun j hj => by have e : j = 4 := (by omega); subst e; rfl) rfl)) <|
  z_ac (j := 939) rfl (zx_I (sp_aload_n (q := 2) dL_law_1780 rfl rfl)) <|
  z_ac (j := 940) rfl (zx_I (sp_aload_n (q := 0) dL_law_1781 rfl rfl)) <|
  z_ac (j := 941) rfl (zx_I (sp_iload dL_law_1782 rfl)) <|
  z_ac (j := 942) rfl (zx_I (sp_iconst dL_law_1784 (by decide +kernel) rfl)) <|
  z_ac (j := 943) rfl (zx_I (sp_iadd dL_law_1785 rfl)) <|
  z_ac (j := 944) rfl (zx_I (sp_sld dL_law_1786 rfl)) <|
  z_ac (j := 945) rfl (zx_V dL_law_1787 wl_1712 qX9_isWalking (by decide +kernel) ⟨_, _, rfl⟩ rfl) <|
  z_ac (j := 946) rfl (zx_I (sp_istoreK dL_law_1790 (by decide) (by decide) rfl)) <|
  z_ac (j := 947) rfl (zx_I (sp_aload_n (q := 2) dL_law_1792 rfl rfl)) <|
  z_ac (j := 948) rfl (zx_V dL_law_1793 wl_1416 qX9_thrown (by decide +kernel) ⟨_, _, rfl⟩ rfl) <|
  z_ac (j := 949) rfl (zx_I (sp_iload dL_law_1796 rfl)) <|
  z_ac (j := 950) rfl (zx_I (sp_icmp_eq dL_law_1798 rfl rfl)) <|
  z_ac (j := 951) rfl (zx_I (sp_iconst dL_law_1801 (by decide +kernel) rfl)) <|
  z_ac (j := 952) rfl (zx_R (sr_bool dL_law_1802 rfl)) <|
  z_ac (j := 953) rfl (zx_I (sp_iload dL_law_1803 rfl)) <|
  z_ac (j := 954) rfl (zx_I (sp_if_ne dL_law_1805 rfl rfl)) <|
  z_ac (j := 955) rfl (zx_I (sp_aload_n (q := 3) dL_law_1808 rfl rfl)) <|
  z_ac (j := 956) rfl (zx_I (sp_iconst dL_law_1809 (by decide +kernel) rfl)) <|
  z_ac (j := 957) rfl (zx_I (sp_lald dL_law_1810 rfl)) <|
  z_ac (j := 958) rfl (zx_I (sp_iload dL_law_1811 rfl)) <|
  z_ac (j := 959) rfl (zx_I (sp_if_eq dL_law_1813 rfl rfl)) <|
  z_ac (j := 960) rfl (zx_I (sp_lconst (n := 1) dL_law_1816 (by decide +kernel) rfl)) <|
  z_ac (j := 961) rfl (zx_I (sp_goto dL_law_1817 rfl)) <| z_an
theorem dL_law_1820 : decode cL_law 1820 = .ok (.lconst 0, 1) := by decide +kernel
theorem dL_law_1821 : decode cL_law 1821 = .ok (.lcmp, 1) := by decide +kernel
theorem dL_law_1822 : decode cL_law 1822 = .ok (.ifCond .eq 5, 3) := by decide +kernel
theorem dL_law_1825 : decode cL_law 1825 = .ok (.iconst 0, 1) := by decide +kernel
theorem dL_law_1826 : decode cL_law 1826 = .ok (.ireturn, 1) := by decide +kernel
theorem dL_law_1827 : decode cL_law 1827 = .ok (.goto 1805, 3) := by decide +kernel
theorem dL_law_1830 : decode cL_law 1830 = .ok (.aload_n 1, 1) := by decide +kernel
theorem dL_law_1831 : decode cL_law 1831 = .ok (.aload_n 0, 1) := by decide +kernel
theorem dL_law_1832 : decode cL_law 1832 = .ok (.iload 4, 2) := by decide +kernel
theorem dL_law_1834 : decode cL_law 1834 = .ok (.iconst 1, 1) := by decide +kernel
theorem dL_law_1835 : decode cL_law 1835 = .ok (.iadd, 1) := by decide +kernel
theorem dL_law_1836 : decode cL_law 1836 = .ok (.iaload, 1) := by decide +kernel
theorem dL_law_1837 : decode cL_law 1837 = .ok (.aload_n 3, 1) := by decide +kernel
theorem dL_law_1838 : decode cL_law 1838 = .ok (.invokestatic 287, 3) := by decide +kernel
theorem dL_law_1841 : decode cL_law 1841 = .ok (.istore 5, 2) := by decide +kernel
theorem dL_law_1843 : decode cL_law 1843 = .ok (.aload_n 2, 1) := by decide +kernel
theorem dL_law_1844 : decode cL_law 1844 = .ok (.aload_n 0, 1) := by decide +kernel
theorem dL_law_1845 : decode cL_law 1845 = .ok (.iload 4, 2) := by decide +kernel
theorem dL_law_1847 : decode cL_law 1847 = .ok (.iconst 1, 1) := by decide +kernel
theorem dL_law_1848 : decode cL_law 1848 = .ok (.iadd, 1) := by decide +kernel
theorem dL_law_1849 : decode cL_law 1849 = .ok (.iaload, 1) := by decide +kernel
theorem dL_law_1850 : decode cL_law 1850 = .ok (.invokevirtual 289, 3) := by decide +kernel
theorem dL_law_1853 : decode cL_law 1853 = .ok (.istore 6, 2) := by decide +kernel
theorem dL_law_1855 : decode cL_law 1855 = .ok (.aload_n 2, 1) := by decide +kernel
theorem dL_law_1856 : decode cL_law 1856 = .ok (.invokevirtual 180, 3) := by decide +kernel
theorem dL_law_1859 : decode cL_law 1859 = .ok (.iload 5, 2) := by decide +kernel
theorem dL_law_1861 : decode cL_law 1861 = .ok (.if_icmp .eq 5, 3) := by decide +kernel
theorem dL_law_1864 : decode cL_law 1864 = .ok (.iconst 0, 1) := by decide +kernel
theorem dL_law_1865 : decode cL_law 1865 = .ok (.ireturn, 1) := by decide +kernel
theorem dL_law_1866 : decode cL_law 1866 = .ok (.iload 5, 2) := by decide +kernel
theorem dL_law_1868 : decode cL_law 1868 = .ok (.ifCond .ne 22, 3) := by decide +kernel
theorem dL_law_1871 : decode cL_law 1871 = .ok (.aload_n 3, 1) := by decide +kernel
theorem dL_law_1872 : decode cL_law 1872 = .ok (.iconst 0, 1) := by decide +kernel
theorem dL_law_1873 : decode cL_law 1873 = .ok (.laload, 1) := by decide +kernel
theorem dL_law_1874 : decode cL_law 1874 = .ok (.iload 6, 2) := by decide +kernel
theorem dL_law_1876 : decode cL_law 1876 = .ok (.ifCond .eq 7, 3) := by decide +kernel
theorem dL_law_1879 : decode cL_law 1879 = .ok (.lconst 1, 1) := by decide +kernel
theorem dL_law_1880 : decode cL_law 1880 = .ok (.goto 4, 3) := by decide +kernel
theorem dL_law_1883 : decode cL_law 1883 = .ok (.lconst 0, 1) := by decide +kernel
theorem dL_law_1884 : decode cL_law 1884 = .ok (.lcmp, 1) := by decide +kernel
theorem dL_law_1885 : decode cL_law 1885 = .ok (.ifCond .eq 5, 3) := by decide +kernel
theorem dL_law_1888 : decode cL_law 1888 = .ok (.iconst 0, 1) := by decide +kernel
theorem dL_law_1889 : decode cL_law 1889 = .ok (.ireturn, 1) := by decide +kernel
theorem dL_law_1890 : decode cL_law 1890 = .ok (.goto 1742, 3) := by decide +kernel
theorem dL_law_1893 : decode cL_law 1893 = .ok (.aload_n 1, 1) := by decide +kernel
theorem dL_law_1894 : decode cL_law 1894 = .ok (.aload_n 0, 1) := by decide +kernel
theorem dL_law_1895 : decode cL_law 1895 = .ok (.iload 4, 2) := by decide +kernel
theorem dL_law_1897 : decode cL_law 1897 = .ok (.iconst 1, 1) := by decide +kernel
theorem dL_law_1898 : decode cL_law 1898 = .ok (.iadd, 1) := by decide +kernel
theorem dL_law_1899 : decode cL_law 1899 = .ok (.iaload, 1) := by decide +kernel
theorem dL_law_1900 : decode cL_law 1900 = .ok (.aload_n 3, 1) := by decide +kernel
theorem dL_law_1901 : decode cL_law 1901 = .ok (.invokestatic 290, 3) := by decide +kernel
theorem dL_law_1904 : decode cL_law 1904 = .ok (.istore 5, 2) := by decide +kernel
theorem dL_law_1906 : decode cL_law 1906 = .ok (.aload_n 2, 1) := by decide +kernel
theorem dL_law_1907 : decode cL_law 1907 = .ok (.aload_n 0, 1) := by decide +kernel
theorem dL_law_1908 : decode cL_law 1908 = .ok (.iload 4, 2) := by decide +kernel
theorem dL_law_1910 : decode cL_law 1910 = .ok (.iconst 1, 1) := by decide +kernel
theorem dL_law_1911 : decode cL_law 1911 = .ok (.iadd, 1) := by decide +kernel
theorem dL_law_1912 : decode cL_law 1912 = .ok (.iaload, 1) := by decide +kernel
theorem dL_law_1913 : decode cL_law 1913 = .ok (.invokevirtual 292, 3) := by decide +kernel
theorem dL_law_1916 : decode cL_law 1916 = .ok (.istore 6, 2) := by decide +kernel
theorem dL_law_1918 : decode cL_law 1918 = .ok (.aload_n 2, 1) := by decide +kernel
theorem dL_law_1919 : decode cL_law 1919 = .ok (.invokevirtual 180, 3) := by decide +kernel
theorem dL_law_1922 : decode cL_law 1922 = .ok (.iload 5, 2) := by decide +kernel
theorem tLaw15 {LL : Nat} {xs : Nat → Int32} {N : Nat} : z_AllE (zX1 LL xs N) 961 (zLK15 LL xs N) :=
  z_ac (j := 962) rfl (zx_I (sp_lconst (n := 0) dL_law_1820 (by decide +kernel) rfl)) <|
  z_ac (j := 963) rfl (zx_I (sp_lcmp dL_law_1821 rfl)) <|
  z_ac (j := 964) rfl (zx_I (sp_if_eq dL_law_1822 rfl rfl)) <|
  z_ac (j := 965) rfl (zx_I (sp_iconst dL_law_1825 (by decide +kernel) rfl)) <|
  z_ac (j := 966) rfl (zx_R (sr_bool dL_law_1826 rfl)) <|
  z_ac (j := 967) rfl (zx_I (sp_goto dL_law_1827 rfl)) <|
  z_ac (j := 968) rfl (zx_I (sp_aload_n (q := 1) dL_law_1830 rfl rfl)) <|
  z_ac (j := 969) rfl (zx_I (sp_aload_n (q := 0) dL_law_1831 rfl rfl)) <|
  z_ac (j := 970) rfl (zx_I (sp_iload dL_law_1832 rfl)) <|
  z_ac (j := 971) rfl (zx_I (sp_iconst dL_law_1834 (by decide +kernel) rfl)) <|
  z_ac (j := 972) rfl (zx_I (sp_iadd dL_law_1835 rfl)) <|
  z_ac (j := 973) rfl (zx_I (sp_sld dL_law_1836 rfl)) <|
  z_ac (j := 974) rfl (zx_I (sp_aload_n (q := 3) dL_law_1837 rfl rfl)) <|
  z_ac (j := 975) rfl (zx_W dL_law_1838 wl_1104 qL_hasArrived (by decide +kernel) rfl) <|
  z_ac (j := 976) rfl (zx_I (sp_istore dL_law_1841 (by decide) (fun j hj => by have e : j = 4 := (by omega); subst e; rfl) rfl)) <|
  z_ac (j := 977) rfl (zx_I (sp_aload_n (q := 2) dL_law_1843 rfl rfl)) <|
  z_ac (j := 978) rfl (zx_I (sp_aload_n (q := 0) dL_law_1844 rfl rfl)) <|
  z_ac (j := 979) rfl (zx_I (sp_iload dL_law_1845 rfl)) <|
  z_ac (j := 980) rfl (zx_I (sp_iconst dL_law_1847 (by decide +kernel) rfl)) <|
  z_ac (j := 981) rfl (zx_I (sp_iadd dL_law_1848 rfl)) <|
  z_ac (j := 982) rfl (zx_I (sp_sld dL_law_1849 rfl)) <|
  z_ac (j := 983) rfl (zx_V dL_law_1850 wl_1720 qX9_hasArrived (by decide +kernel) ⟨_, _, rfl⟩ rfl) <|
  z_ac (j := 984) rfl (zx_I (sp_istoreK dL_law_1853 (by decide) (by decide) rfl)) <|
  z_ac (j := 985) rfl (zx_I (sp_aload_n (q := 2) dL_law_1855 rfl rfl)) <|
  z_ac (j := 986) rfl (zx_V dL_law_1856 wl_1416 qX9_thrown (by decide +kernel) ⟨_, _, rfl⟩ rfl) <|
  z_ac (j := 987) rfl (zx_I (sp_iload dL_law_1859 rfl)) <|
  z_ac (j := 988) rfl (zx_I (sp_icmp_eq dL_law_1861 rfl rfl)) <|
  z_ac (j := 989) rfl (zx_I (sp_iconst dL_law_1864 (by decide +kernel) rfl)) <|
  z_ac (j := 990) rfl (zx_R (sr_bool dL_law_1865 rfl)) <|
  z_ac (j := 991) rfl (zx_I (sp_iload dL_law_1866 rfl)) <|
  z_ac (j := 992) rfl (zx_I (sp_if_ne dL_law_1868 rfl rfl)) <|
  z_ac (j := 993) rfl (zx_I (sp_aload_n (q := 3) dL_law_1871 rfl rfl)) <|
  z_ac (j := 994) rfl (zx_I (sp_iconst dL_law_1872 (by decide +kernel) rfl)) <|
  z_ac (j := 995) rfl (zx_I (sp_lald dL_law_1873 rfl)) <|
  z_ac (j := 996) rfl (zx_I (sp_iload dL_law_1874 rfl)) <|
  z_ac (j := 997) rfl (zx_I (sp_if_eq dL_law_1876 rfl rfl)) <|
  z_ac (j := 998) rfl (zx_I (sp_lconst (n := 1) dL_law_1879 (by decide +kernel) rfl)) <|
  z_ac (j := 999) rfl (zx_I (sp_goto dL_law_1880 rfl)) <|
  z_ac (j := 1000) rfl (zx_I (sp_lconst (n := 0) dL_law_1883 (by decide +kernel) rfl)) <|
  z_ac (j := 1001) rfl (zx_I (sp_lcmp dL_law_1884 rfl)) <|
  z_ac (j := 1002) rfl (zx_I (sp_if_eq dL_law_1885 rfl rfl)) <|
  z_ac (j := 1003) rfl (zx_I (sp_iconst dL_law_1888 (by decide +kernel) rfl)) <|
  z_ac (j := 1004) rfl (zx_R (sr_bool dL_law_1889 rfl)) <|
  z_ac (j := 1005) rfl (zx_I (sp_goto dL_law_1890 rfl)) <|
  z_ac (j := 1006) rfl (zx_I (sp_aload_n (q := 1) dL_law_1893 rfl rfl)) <|
  z_ac (j := 1007) rfl (zx_I (sp_aload_n (q := 0) dL_law_1894 rfl rfl)) <|
  z_ac (j := 1008) rfl (zx_I (sp_iload dL_law_1895 rfl)) <|
  z_ac (j := 1009) rfl (zx_I (sp_iconst dL_law_1897 (by decide +kernel) rfl)) <|
  z_ac (j := 1010) rfl (zx_I (sp_iadd dL_law_1898 rfl)) <|
  z_ac (j := 1011) rfl (zx_I (sp_sld dL_law_1899 rfl)) <|
  z_ac (j := 1012) rfl (zx_I (sp_aload_n (q := 3) dL_law_1900 rfl rfl)) <|
  z_ac (j := 1013) rfl (zx_W dL_law_1901 wl_1111 qL_hasSunk (by decide +kernel) rfl) <|
  z_ac (j := 1014) rfl (zx_I (sp_istore dL_law_1904 (by decide) (fun j hj => by have e : j = 4 := (by omega); subst e; rfl) rfl)) <|
  z_ac (j := 1015) rfl (zx_I (sp_aload_n (q := 2) dL_law_1906 rfl rfl)) <|
  z_ac (j := 1016) rfl (zx_I (sp_aload_n (q := 0) dL_law_1907 rfl rfl)) <|
  z_ac (j := 1017) rfl (zx_I (sp_iload dL_law_1908 rfl)) <|
  z_ac (j := 1018) rfl (zx_I (sp_iconst dL_law_1910 (by decide +kernel) rfl)) <|
  z_ac (j := 1019) rfl (zx_I (sp_iadd dL_law_1911 rfl)) <|
  z_ac (j := 1020) rfl (zx_I (sp_sld dL_law_1912 rfl)) <|
  z_ac (j := 1021) rfl (zx_V dL_law_1913 wl_1724 qX9_hasSunk (by decide +kernel) ⟨_, _, rfl⟩ rfl) <|
  z_ac (j := 1022) rfl (zx_I (sp_istoreK dL_law_1916 (by decide) (by decide) rfl)) <|
  z_ac (j := 1023) rfl (zx_I (sp_aload_n (q := 2) dL_law_1918 rfl rfl)) <|
  z_ac (j := 1024) rfl (zx_V dL_law_1919 wl_1416 qX9_thrown (by decide +kernel) ⟨_, _, rfl⟩ rfl) <|
  z_ac (j := 1025) rfl (zx_I (sp_iload dL_law_1922 rfl)) <| z_an
theorem dL_law_1924 : decode cL_law 1924 = .ok (.if_icmp .eq 5, 3) := by decide +kernel
theorem dL_law_1927 : decode cL_law 1927 = .ok (.iconst 0, 1) := by decide +kernel
theorem dL_law_1928 : decode cL_law 1928 = .ok (.ireturn, 1) := by decide +kernel
theorem dL_law_1929 : decode cL_law 1929 = .ok (.iload 5, 2) := by decide +kernel
theorem dL_law_1931 : decode cL_law 1931 = .ok (.ifCond .ne 22, 3) := by decide +kernel
theorem dL_law_1934 : decode cL_law 1934 = .ok (.aload_n 3, 1) := by decide +kernel
theorem dL_law_1935 : decode cL_law 1935 = .ok (.iconst 0, 1) := by decide +kernel
theorem dL_law_1936 : decode cL_law 1936 = .ok (.laload, 1) := by decide +kernel
theorem dL_law_1937 : decode cL_law 1937 = .ok (.iload 6, 2) := by decide +kernel
theorem dL_law_1939 : decode cL_law 1939 = .ok (.ifCond .eq 7, 3) := by decide +kernel
theorem dL_law_1942 : decode cL_law 1942 = .ok (.lconst 1, 1) := by decide +kernel
theorem dL_law_1943 : decode cL_law 1943 = .ok (.goto 4, 3) := by decide +kernel
theorem dL_law_1946 : decode cL_law 1946 = .ok (.lconst 0, 1) := by decide +kernel
theorem dL_law_1947 : decode cL_law 1947 = .ok (.lcmp, 1) := by decide +kernel
theorem dL_law_1948 : decode cL_law 1948 = .ok (.ifCond .eq 5, 3) := by decide +kernel
theorem dL_law_1951 : decode cL_law 1951 = .ok (.iconst 0, 1) := by decide +kernel
theorem dL_law_1952 : decode cL_law 1952 = .ok (.ireturn, 1) := by decide +kernel
theorem dL_law_1953 : decode cL_law 1953 = .ok (.goto 1679, 3) := by decide +kernel
theorem dL_law_1956 : decode cL_law 1956 = .ok (.aload_n 1, 1) := by decide +kernel
theorem dL_law_1957 : decode cL_law 1957 = .ok (.aload_n 0, 1) := by decide +kernel
theorem dL_law_1958 : decode cL_law 1958 = .ok (.iload 4, 2) := by decide +kernel
theorem dL_law_1960 : decode cL_law 1960 = .ok (.iconst 1, 1) := by decide +kernel
theorem dL_law_1961 : decode cL_law 1961 = .ok (.iadd, 1) := by decide +kernel
theorem dL_law_1962 : decode cL_law 1962 = .ok (.iaload, 1) := by decide +kernel
theorem dL_law_1963 : decode cL_law 1963 = .ok (.aload_n 3, 1) := by decide +kernel
theorem dL_law_1964 : decode cL_law 1964 = .ok (.invokestatic 293, 3) := by decide +kernel
theorem dL_law_1967 : decode cL_law 1967 = .ok (.istore 5, 2) := by decide +kernel
theorem dL_law_1969 : decode cL_law 1969 = .ok (.aload_n 2, 1) := by decide +kernel
theorem dL_law_1970 : decode cL_law 1970 = .ok (.aload_n 0, 1) := by decide +kernel
theorem dL_law_1971 : decode cL_law 1971 = .ok (.iload 4, 2) := by decide +kernel
theorem dL_law_1973 : decode cL_law 1973 = .ok (.iconst 1, 1) := by decide +kernel
theorem dL_law_1974 : decode cL_law 1974 = .ok (.iadd, 1) := by decide +kernel
theorem dL_law_1975 : decode cL_law 1975 = .ok (.iaload, 1) := by decide +kernel
theorem dL_law_1976 : decode cL_law 1976 = .ok (.invokevirtual 295, 3) := by decide +kernel
theorem dL_law_1979 : decode cL_law 1979 = .ok (.istore 6, 2) := by decide +kernel
theorem dL_law_1981 : decode cL_law 1981 = .ok (.aload_n 2, 1) := by decide +kernel
theorem dL_law_1982 : decode cL_law 1982 = .ok (.invokevirtual 180, 3) := by decide +kernel
theorem dL_law_1985 : decode cL_law 1985 = .ok (.iload 5, 2) := by decide +kernel
theorem dL_law_1987 : decode cL_law 1987 = .ok (.if_icmp .eq 5, 3) := by decide +kernel
theorem dL_law_1990 : decode cL_law 1990 = .ok (.iconst 0, 1) := by decide +kernel
theorem dL_law_1991 : decode cL_law 1991 = .ok (.ireturn, 1) := by decide +kernel
theorem dL_law_1992 : decode cL_law 1992 = .ok (.iload 5, 2) := by decide +kernel
theorem dL_law_1994 : decode cL_law 1994 = .ok (.ifCond .ne 15, 3) := by decide +kernel
theorem dL_law_1997 : decode cL_law 1997 = .ok (.aload_n 3, 1) := by decide +kernel
theorem dL_law_1998 : decode cL_law 1998 = .ok (.iconst 0, 1) := by decide +kernel
theorem dL_law_1999 : decode cL_law 1999 = .ok (.laload, 1) := by decide +kernel
theorem dL_law_2000 : decode cL_law 2000 = .ok (.iload 6, 2) := by decide +kernel
theorem dL_law_2002 : decode cL_law 2002 = .ok (.i2l, 1) := by decide +kernel
theorem dL_law_2003 : decode cL_law 2003 = .ok (.lcmp, 1) := by decide +kernel
theorem dL_law_2004 : decode cL_law 2004 = .ok (.ifCond .eq 5, 3) := by decide +kernel
theorem dL_law_2007 : decode cL_law 2007 = .ok (.iconst 0, 1) := by decide +kernel
theorem dL_law_2008 : decode cL_law 2008 = .ok (.ireturn, 1) := by decide +kernel
theorem dL_law_2009 : decode cL_law 2009 = .ok (.goto 1623, 3) := by decide +kernel
theorem dL_law_2012 : decode cL_law 2012 = .ok (.aload_n 1, 1) := by decide +kernel
theorem dL_law_2013 : decode cL_law 2013 = .ok (.aload_n 0, 1) := by decide +kernel
theorem dL_law_2014 : decode cL_law 2014 = .ok (.iload 4, 2) := by decide +kernel
theorem dL_law_2016 : decode cL_law 2016 = .ok (.iconst 1, 1) := by decide +kernel
theorem dL_law_2017 : decode cL_law 2017 = .ok (.iadd, 1) := by decide +kernel
theorem dL_law_2018 : decode cL_law 2018 = .ok (.iaload, 1) := by decide +kernel
theorem dL_law_2019 : decode cL_law 2019 = .ok (.aload_n 3, 1) := by decide +kernel
theorem dL_law_2020 : decode cL_law 2020 = .ok (.invokestatic 296, 3) := by decide +kernel
theorem dL_law_2023 : decode cL_law 2023 = .ok (.istore 5, 2) := by decide +kernel
theorem dL_law_2025 : decode cL_law 2025 = .ok (.aload_n 2, 1) := by decide +kernel
theorem dL_law_2026 : decode cL_law 2026 = .ok (.aload_n 0, 1) := by decide +kernel
theorem tLaw16 {LL : Nat} {xs : Nat → Int32} {N : Nat} : z_AllE (zX1 LL xs N) 1025 (zLK16 LL xs N) :=
  z_ac (j := 1026) rfl (zx_I (sp_icmp_eq dL_law_1924 rfl rfl)) <|
  z_ac (j := 1027) rfl (zx_I (sp_iconst dL_law_1927 (by decide +kernel) rfl)) <|
  z_ac (j := 1028) rfl (zx_R (sr_bool dL_law_1928 rfl)) <|
  z_ac (j := 1029) rfl (zx_I (sp_iload dL_law_1929 rfl)) <|
  z_ac (j := 1030) rfl (zx_I (sp_if_ne dL_law_1931 rfl rfl)) <|
  z_ac (j := 1031) rfl (zx_I (sp_aload_n (q := 3) dL_law_1934 rfl rfl)) <|
  z_ac (j := 1032) rfl (zx_I (sp_iconst dL_law_1935 (by decide +kernel) rfl)) <|
  z_ac (j := 1033) rfl (zx_I (sp_lald dL_law_1936 rfl)) <|
  z_ac (j := 1034) rfl (zx_I (sp_iload dL_law_1937 rfl)) <|
  z_ac (j := 1035) rfl (zx_I (sp_if_eq dL_law_1939 rfl rfl)) <|
  z_ac (j := 1036) rfl (zx_I (sp_lconst (n := 1) dL_law_1942 (by decide +kernel) rfl)) <|
  z_ac (j := 1037) rfl (zx_I (sp_goto dL_law_1943 rfl)) <|
  z_ac (j := 1038) rfl (zx_I (sp_lconst (n := 0) dL_law_1946 (by decide +kernel) rfl)) <|
  z_ac (j := 1039) rfl (zx_I (sp_lcmp dL_law_1947 rfl)) <|
  z_ac (j := 1040) rfl (zx_I (sp_if_eq dL_law_1948 rfl rfl)) <|
  z_ac (j := 1041) rfl (zx_I (sp_iconst dL_law_1951 (by decide +kernel) rfl)) <|
  z_ac (j := 1042) rfl (zx_R (sr_bool dL_law_1952 rfl)) <|
  z_ac (j := 1043) rfl (zx_I (sp_goto dL_law_1953 rfl)) <|
  z_ac (j := 1044) rfl (zx_I (sp_aload_n (q := 1) dL_law_1956 rfl rfl)) <|
  z_ac (j := 1045) rfl (zx_I (sp_aload_n (q := 0) dL_law_1957 rfl rfl)) <|
  z_ac (j := 1046) rfl (zx_I (sp_iload dL_law_1958 rfl)) <|
  z_ac (j := 1047) rfl (zx_I (sp_iconst dL_law_1960 (by decide +kernel) rfl)) <|
  z_ac (j := 1048) rfl (zx_I (sp_iadd dL_law_1961 rfl)) <|
  z_ac (j := 1049) rfl (zx_I (sp_sld dL_law_1962 rfl)) <|
  z_ac (j := 1050) rfl (zx_I (sp_aload_n (q := 3) dL_law_1963 rfl rfl)) <|
  z_ac (j := 1051) rfl (zx_W dL_law_1964 wl_1118 qL_stepsTaken (by decide +kernel) rfl) <|
  z_ac (j := 1052) rfl (zx_I (sp_istore dL_law_1967 (by decide) (fun j hj => by have e : j = 4 := (by omega); subst e; rfl) rfl)) <|
  z_ac (j := 1053) rfl (zx_I (sp_aload_n (q := 2) dL_law_1969 rfl rfl)) <|
  z_ac (j := 1054) rfl (zx_I (sp_aload_n (q := 0) dL_law_1970 rfl rfl)) <|
  z_ac (j := 1055) rfl (zx_I (sp_iload dL_law_1971 rfl)) <|
  z_ac (j := 1056) rfl (zx_I (sp_iconst dL_law_1973 (by decide +kernel) rfl)) <|
  z_ac (j := 1057) rfl (zx_I (sp_iadd dL_law_1974 rfl)) <|
  z_ac (j := 1058) rfl (zx_I (sp_sld dL_law_1975 rfl)) <|
  z_ac (j := 1059) rfl (zx_V dL_law_1976 wl_1728 qX9_stepsTaken (by decide +kernel) ⟨_, _, rfl⟩ rfl) <|
  z_ac (j := 1060) rfl (zx_I (sp_istoreK dL_law_1979 (by decide) (by decide) rfl)) <|
  z_ac (j := 1061) rfl (zx_I (sp_aload_n (q := 2) dL_law_1981 rfl rfl)) <|
  z_ac (j := 1062) rfl (zx_V dL_law_1982 wl_1416 qX9_thrown (by decide +kernel) ⟨_, _, rfl⟩ rfl) <|
  z_ac (j := 1063) rfl (zx_I (sp_iload dL_law_1985 rfl)) <|
  z_ac (j := 1064) rfl (zx_I (sp_icmp_eq dL_law_1987 rfl rfl)) <|
  z_ac (j := 1065) rfl (zx_I (sp_iconst dL_law_1990 (by decide +kernel) rfl)) <|
  z_ac (j := 1066) rfl (zx_R (sr_bool dL_law_1991 rfl)) <|
  z_ac (j := 1067) rfl (zx_I (sp_iload dL_law_1992 rfl)) <|
  z_ac (j := 1068) rfl (zx_I (sp_if_ne dL_law_1994 rfl rfl)) <|
  z_ac (j := 1069) rfl (zx_I (sp_aload_n (q := 3) dL_law_1997 rfl rfl)) <|
  z_ac (j := 1070) rfl (zx_I (sp_iconst dL_law_1998 (by decide +kernel) rfl)) <|
  z_ac (j := 1071) rfl (zx_I (sp_lald dL_law_1999 rfl)) <|
  z_ac (j := 1072) rfl (zx_I (sp_iload dL_law_2000 rfl)) <|
  z_ac (j := 1073) rfl (zx_I (sp_i2l dL_law_2002 rfl)) <|
  z_ac (j := 1074) rfl (zx_I (sp_lcmp dL_law_2003 rfl)) <|
  z_ac (j := 1075) rfl (zx_I (sp_if_eq dL_law_2004 rfl rfl)) <|
  z_ac (j := 1076) rfl (zx_I (sp_iconst dL_law_2007 (by decide +kernel) rfl)) <|
  z_ac (j := 1077) rfl (zx_R (sr_bool dL_law_2008 rfl)) <|
  z_ac (j := 1078) rfl (zx_I (sp_goto dL_law_2009 rfl)) <|
  z_ac (j := 1079) rfl (zx_I (sp_aload_n (q := 1) dL_law_2012 rfl rfl)) <|
  z_ac (j := 1080) rfl (zx_I (sp_aload_n (q := 0) dL_law_2013 rfl rfl)) <|
  z_ac (j := 1081) rfl (zx_I (sp_iload dL_law_2014 rfl)) <|
  z_ac (j := 1082) rfl (zx_I (sp_iconst dL_law_2016 (by decide +kernel) rfl)) <|
  z_ac (j := 1083) rfl (zx_I (sp_iadd dL_law_2017 rfl)) <|
  z_ac (j := 1084) rfl (zx_I (sp_sld dL_law_2018 rfl)) <|
  z_ac (j := 1085) rfl (zx_I (sp_aload_n (q := 3) dL_law_2019 rfl rfl)) <|
  z_ac (j := 1086) rfl (zx_W dL_law_2020 wl_1125 qL_hasTarget (by decide +kernel) rfl) <|
  z_ac (j := 1087) rfl (zx_I (sp_istore dL_law_2023 (by decide) (fun j hj => by have e : j = 4 := (by omega); subst e; rfl) rfl)) <|
  z_ac (j := 1088) rfl (zx_I (sp_aload_n (q := 2) dL_law_2025 rfl rfl)) <|
  z_ac (j := 1089) rfl (zx_I (sp_aload_n (q := 0) dL_law_2026 rfl rfl)) <| z_an
theorem dL_law_2027 : decode cL_law 2027 = .ok (.iload 4, 2) := by decide +kernel
theorem dL_law_2029 : decode cL_law 2029 = .ok (.iconst 1, 1) := by decide +kernel
theorem dL_law_2030 : decode cL_law 2030 = .ok (.iadd, 1) := by decide +kernel
theorem dL_law_2031 : decode cL_law 2031 = .ok (.iaload, 1) := by decide +kernel
theorem dL_law_2032 : decode cL_law 2032 = .ok (.invokevirtual 298, 3) := by decide +kernel
theorem dL_law_2035 : decode cL_law 2035 = .ok (.istore 6, 2) := by decide +kernel
theorem dL_law_2037 : decode cL_law 2037 = .ok (.aload_n 2, 1) := by decide +kernel
theorem dL_law_2038 : decode cL_law 2038 = .ok (.invokevirtual 180, 3) := by decide +kernel
theorem dL_law_2041 : decode cL_law 2041 = .ok (.iload 5, 2) := by decide +kernel
theorem dL_law_2043 : decode cL_law 2043 = .ok (.if_icmp .eq 5, 3) := by decide +kernel
theorem dL_law_2046 : decode cL_law 2046 = .ok (.iconst 0, 1) := by decide +kernel
theorem dL_law_2047 : decode cL_law 2047 = .ok (.ireturn, 1) := by decide +kernel
theorem dL_law_2048 : decode cL_law 2048 = .ok (.iload 5, 2) := by decide +kernel
theorem dL_law_2050 : decode cL_law 2050 = .ok (.ifCond .ne 22, 3) := by decide +kernel
theorem dL_law_2053 : decode cL_law 2053 = .ok (.aload_n 3, 1) := by decide +kernel
theorem dL_law_2054 : decode cL_law 2054 = .ok (.iconst 0, 1) := by decide +kernel
theorem dL_law_2055 : decode cL_law 2055 = .ok (.laload, 1) := by decide +kernel
theorem dL_law_2056 : decode cL_law 2056 = .ok (.iload 6, 2) := by decide +kernel
theorem dL_law_2058 : decode cL_law 2058 = .ok (.ifCond .eq 7, 3) := by decide +kernel
theorem dL_law_2061 : decode cL_law 2061 = .ok (.lconst 1, 1) := by decide +kernel
theorem dL_law_2062 : decode cL_law 2062 = .ok (.goto 4, 3) := by decide +kernel
theorem dL_law_2065 : decode cL_law 2065 = .ok (.lconst 0, 1) := by decide +kernel
theorem dL_law_2066 : decode cL_law 2066 = .ok (.lcmp, 1) := by decide +kernel
theorem dL_law_2067 : decode cL_law 2067 = .ok (.ifCond .eq 5, 3) := by decide +kernel
theorem dL_law_2070 : decode cL_law 2070 = .ok (.iconst 0, 1) := by decide +kernel
theorem dL_law_2071 : decode cL_law 2071 = .ok (.ireturn, 1) := by decide +kernel
theorem dL_law_2072 : decode cL_law 2072 = .ok (.goto 1560, 3) := by decide +kernel
theorem dL_law_2075 : decode cL_law 2075 = .ok (.aload_n 1, 1) := by decide +kernel
theorem dL_law_2076 : decode cL_law 2076 = .ok (.aload_n 0, 1) := by decide +kernel
theorem dL_law_2077 : decode cL_law 2077 = .ok (.iload 4, 2) := by decide +kernel
theorem dL_law_2079 : decode cL_law 2079 = .ok (.iconst 1, 1) := by decide +kernel
theorem dL_law_2080 : decode cL_law 2080 = .ok (.iadd, 1) := by decide +kernel
theorem dL_law_2081 : decode cL_law 2081 = .ok (.iaload, 1) := by decide +kernel
theorem dL_law_2082 : decode cL_law 2082 = .ok (.aload_n 3, 1) := by decide +kernel
theorem dL_law_2083 : decode cL_law 2083 = .ok (.invokestatic 299, 3) := by decide +kernel
theorem dL_law_2086 : decode cL_law 2086 = .ok (.istore 5, 2) := by decide +kernel
theorem dL_law_2088 : decode cL_law 2088 = .ok (.aload_n 2, 1) := by decide +kernel
theorem dL_law_2089 : decode cL_law 2089 = .ok (.aload_n 0, 1) := by decide +kernel
theorem dL_law_2090 : decode cL_law 2090 = .ok (.iload 4, 2) := by decide +kernel
theorem dL_law_2092 : decode cL_law 2092 = .ok (.iconst 1, 1) := by decide +kernel
theorem dL_law_2093 : decode cL_law 2093 = .ok (.iadd, 1) := by decide +kernel
theorem dL_law_2094 : decode cL_law 2094 = .ok (.iaload, 1) := by decide +kernel
theorem dL_law_2095 : decode cL_law 2095 = .ok (.invokevirtual 301, 3) := by decide +kernel
theorem dL_law_2098 : decode cL_law 2098 = .ok (.istore 6, 2) := by decide +kernel
theorem dL_law_2100 : decode cL_law 2100 = .ok (.aload_n 2, 1) := by decide +kernel
theorem dL_law_2101 : decode cL_law 2101 = .ok (.invokevirtual 180, 3) := by decide +kernel
theorem dL_law_2104 : decode cL_law 2104 = .ok (.iload 5, 2) := by decide +kernel
theorem dL_law_2106 : decode cL_law 2106 = .ok (.if_icmp .eq 5, 3) := by decide +kernel
theorem dL_law_2109 : decode cL_law 2109 = .ok (.iconst 0, 1) := by decide +kernel
theorem dL_law_2110 : decode cL_law 2110 = .ok (.ireturn, 1) := by decide +kernel
theorem dL_law_2111 : decode cL_law 2111 = .ok (.iload 5, 2) := by decide +kernel
theorem dL_law_2113 : decode cL_law 2113 = .ok (.ifCond .ne 15, 3) := by decide +kernel
theorem dL_law_2116 : decode cL_law 2116 = .ok (.aload_n 3, 1) := by decide +kernel
theorem dL_law_2117 : decode cL_law 2117 = .ok (.iconst 0, 1) := by decide +kernel
theorem dL_law_2118 : decode cL_law 2118 = .ok (.laload, 1) := by decide +kernel
theorem dL_law_2119 : decode cL_law 2119 = .ok (.iload 6, 2) := by decide +kernel
theorem dL_law_2121 : decode cL_law 2121 = .ok (.i2l, 1) := by decide +kernel
theorem dL_law_2122 : decode cL_law 2122 = .ok (.lcmp, 1) := by decide +kernel
theorem dL_law_2123 : decode cL_law 2123 = .ok (.ifCond .eq 5, 3) := by decide +kernel
theorem dL_law_2126 : decode cL_law 2126 = .ok (.iconst 0, 1) := by decide +kernel
theorem dL_law_2127 : decode cL_law 2127 = .ok (.ireturn, 1) := by decide +kernel
theorem dL_law_2128 : decode cL_law 2128 = .ok (.goto 1504, 3) := by decide +kernel
theorem dL_law_2131 : decode cL_law 2131 = .ok (.aload_n 1, 1) := by decide +kernel
theorem dL_law_2132 : decode cL_law 2132 = .ok (.aload_n 0, 1) := by decide +kernel
theorem tLaw17 {LL : Nat} {xs : Nat → Int32} {N : Nat} : z_AllE (zX1 LL xs N) 1089 (zLK17 LL xs N) :=
  z_ac (j := 1090) rfl (zx_I (sp_iload dL_law_2027 rfl)) <|
  z_ac (j := 1091) rfl (zx_I (sp_iconst dL_law_2029 (by decide +kernel) rfl)) <|
  z_ac (j := 1092) rfl (zx_I (sp_iadd dL_law_2030 rfl)) <|
  z_ac (j := 1093) rfl (zx_I (sp_sld dL_law_2031 rfl)) <|
  z_ac (j := 1094) rfl (zx_V dL_law_2032 wl_1732 qX9_hasTarget (by decide +kernel) ⟨_, _, rfl⟩ rfl) <|
  z_ac (j := 1095) rfl (zx_I (sp_istoreK dL_law_2035 (by decide) (by decide) rfl)) <|
  z_ac (j := 1096) rfl (zx_I (sp_aload_n (q := 2) dL_law_2037 rfl rfl)) <|
  z_ac (j := 1097) rfl (zx_V dL_law_2038 wl_1416 qX9_thrown (by decide +kernel) ⟨_, _, rfl⟩ rfl) <|
  z_ac (j := 1098) rfl (zx_I (sp_iload dL_law_2041 rfl)) <|
  z_ac (j := 1099) rfl (zx_I (sp_icmp_eq dL_law_2043 rfl rfl)) <|
  z_ac (j := 1100) rfl (zx_I (sp_iconst dL_law_2046 (by decide +kernel) rfl)) <|
  z_ac (j := 1101) rfl (zx_R (sr_bool dL_law_2047 rfl)) <|
  z_ac (j := 1102) rfl (zx_I (sp_iload dL_law_2048 rfl)) <|
  z_ac (j := 1103) rfl (zx_I (sp_if_ne dL_law_2050 rfl rfl)) <|
  z_ac (j := 1104) rfl (zx_I (sp_aload_n (q := 3) dL_law_2053 rfl rfl)) <|
  z_ac (j := 1105) rfl (zx_I (sp_iconst dL_law_2054 (by decide +kernel) rfl)) <|
  z_ac (j := 1106) rfl (zx_I (sp_lald dL_law_2055 rfl)) <|
  z_ac (j := 1107) rfl (zx_I (sp_iload dL_law_2056 rfl)) <|
  z_ac (j := 1108) rfl (zx_I (sp_if_eq dL_law_2058 rfl rfl)) <|
  z_ac (j := 1109) rfl (zx_I (sp_lconst (n := 1) dL_law_2061 (by decide +kernel) rfl)) <|
  z_ac (j := 1110) rfl (zx_I (sp_goto dL_law_2062 rfl)) <|
  z_ac (j := 1111) rfl (zx_I (sp_lconst (n := 0) dL_law_2065 (by decide +kernel) rfl)) <|
  z_ac (j := 1112) rfl (zx_I (sp_lcmp dL_law_2066 rfl)) <|
  z_ac (j := 1113) rfl (zx_I (sp_if_eq dL_law_2067 rfl rfl)) <|
  z_ac (j := 1114) rfl (zx_I (sp_iconst dL_law_2070 (by decide +kernel) rfl)) <|
  z_ac (j := 1115) rfl (zx_R (sr_bool dL_law_2071 rfl)) <|
  z_ac (j := 1116) rfl (zx_I (sp_goto dL_law_2072 rfl)) <|
  z_ac (j := 1117) rfl (zx_I (sp_aload_n (q := 1) dL_law_2075 rfl rfl)) <|
  z_ac (j := 1118) rfl (zx_I (sp_aload_n (q := 0) dL_law_2076 rfl rfl)) <|
  z_ac (j := 1119) rfl (zx_I (sp_iload dL_law_2077 rfl)) <|
  z_ac (j := 1120) rfl (zx_I (sp_iconst dL_law_2079 (by decide +kernel) rfl)) <|
  z_ac (j := 1121) rfl (zx_I (sp_iadd dL_law_2080 rfl)) <|
  z_ac (j := 1122) rfl (zx_I (sp_sld dL_law_2081 rfl)) <|
  z_ac (j := 1123) rfl (zx_I (sp_aload_n (q := 3) dL_law_2082 rfl rfl)) <|
  z_ac (j := 1124) rfl (zx_W dL_law_2083 wl_1132 qL_target (by decide +kernel) rfl) <|
  z_ac (j := 1125) rfl (zx_I (sp_istore dL_law_2086 (by decide) (fun j hj => by have e : j = 4 := (by omega); subst e; rfl) rfl)) <|
  z_ac (j := 1126) rfl (zx_I (sp_aload_n (q := 2) dL_law_2088 rfl rfl)) <|
  z_ac (j := 1127) rfl (zx_I (sp_aload_n (q := 0) dL_law_2089 rfl rfl)) <|
  z_ac (j := 1128) rfl (zx_I (sp_iload dL_law_2090 rfl)) <|
  z_ac (j := 1129) rfl (zx_I (sp_iconst dL_law_2092 (by decide +kernel) rfl)) <|
  z_ac (j := 1130) rfl (zx_I (sp_iadd dL_law_2093 rfl)) <|
  z_ac (j := 1131) rfl (zx_I (sp_sld dL_law_2094 rfl)) <|
  z_ac (j := 1132) rfl (zx_V dL_law_2095 wl_1736 qX9_target (by decide +kernel) ⟨_, _, rfl⟩ rfl) <|
  z_ac (j := 1133) rfl (zx_I (sp_istoreK dL_law_2098 (by decide) (by decide) rfl)) <|
  z_ac (j := 1134) rfl (zx_I (sp_aload_n (q := 2) dL_law_2100 rfl rfl)) <|
  z_ac (j := 1135) rfl (zx_V dL_law_2101 wl_1416 qX9_thrown (by decide +kernel) ⟨_, _, rfl⟩ rfl) <|
  z_ac (j := 1136) rfl (zx_I (sp_iload dL_law_2104 rfl)) <|
  z_ac (j := 1137) rfl (zx_I (sp_icmp_eq dL_law_2106 rfl rfl)) <|
  z_ac (j := 1138) rfl (zx_I (sp_iconst dL_law_2109 (by decide +kernel) rfl)) <|
  z_ac (j := 1139) rfl (zx_R (sr_bool dL_law_2110 rfl)) <|
  z_ac (j := 1140) rfl (zx_I (sp_iload dL_law_2111 rfl)) <|
  z_ac (j := 1141) rfl (zx_I (sp_if_ne dL_law_2113 rfl rfl)) <|
  z_ac (j := 1142) rfl (zx_I (sp_aload_n (q := 3) dL_law_2116 rfl rfl)) <|
  z_ac (j := 1143) rfl (zx_I (sp_iconst dL_law_2117 (by decide +kernel) rfl)) <|
  z_ac (j := 1144) rfl (zx_I (sp_lald dL_law_2118 rfl)) <|
  z_ac (j := 1145) rfl (zx_I (sp_iload dL_law_2119 rfl)) <|
  z_ac (j := 1146) rfl (zx_I (sp_i2l dL_law_2121 rfl)) <|
  z_ac (j := 1147) rfl (zx_I (sp_lcmp dL_law_2122 rfl)) <|
  z_ac (j := 1148) rfl (zx_I (sp_if_eq dL_law_2123 rfl rfl)) <|
  z_ac (j := 1149) rfl (zx_I (sp_iconst dL_law_2126 (by decide +kernel) rfl)) <|
  z_ac (j := 1150) rfl (zx_R (sr_bool dL_law_2127 rfl)) <|
  z_ac (j := 1151) rfl (zx_I (sp_goto dL_law_2128 rfl)) <|
  z_ac (j := 1152) rfl (zx_I (sp_aload_n (q := 1) dL_law_2131 rfl rfl)) <|
  z_ac (j := 1153) rfl (zx_I (sp_aload_n (q := 0) dL_law_2132 rfl rfl)) <| z_an
