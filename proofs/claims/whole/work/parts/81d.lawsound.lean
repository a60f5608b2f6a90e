/-! The law itself: each entry is sound (printed by wip/whole/gen80.py). -/
theorem wl_1258 : Cond.methodLink "FalseLightMarshLaw" 365 yL_clearSuccessor ∈ zTs := z_in (i := 1258) (by decide +kernel) (by decide +kernel)
theorem wl_1265 : Cond.methodLink "FalseLightMarshLaw" 368 yL_layPlank ∈ zTs := z_in (i := 1265) (by decide +kernel) (by decide +kernel)
theorem wl_1274 : Cond.methodLink "FalseLightMarshLaw" 372 yL_setClearness ∈ zTs := z_in (i := 1274) (by decide +kernel) (by decide +kernel)
theorem wl_1282 : Cond.methodLink "FalseLightMarshLaw" 375 yL_setFog ∈ zTs := z_in (i := 1282) (by decide +kernel) (by decide +kernel)
theorem wl_1290 : Cond.methodLink "FalseLightMarshLaw" 378 yL_setTarget ∈ zTs := z_in (i := 1290) (by decide +kernel) (by decide +kernel)
theorem wl_1297 : Cond.methodLink "FalseLightMarshLaw" 381 yL_undo ∈ zTs := z_in (i := 1297) (by decide +kernel) (by decide +kernel)
theorem wl_1309 : Cond.methodLink "FalseLightMarshLaw" 384 yL_saveSnapshot ∈ zTs := z_in (i := 1309) (by decide +kernel) (by decide +kernel)
theorem wl_1321 : Cond.methodLink "FalseLightMarshLaw" 387 yL_restoreSnapshot ∈ zTs := z_in (i := 1321) (by decide +kernel) (by decide +kernel)
theorem wl_1329 : Cond.methodLink "FalseLightMarshLaw" 394 yL_printedByte ∈ zTs := z_in (i := 1329) (by decide +kernel) (by decide +kernel)
theorem wl_1883 : Cond.methodLink "FalseLightMarshLaw" 367 yX9_clearSuccessor ∈ zTs := z_in (i := 1883) (by decide +kernel) (by decide +kernel)
theorem wl_1887 : Cond.methodLink "FalseLightMarshLaw" 371 yX9_layPlank ∈ zTs := z_in (i := 1887) (by decide +kernel) (by decide +kernel)
theorem wl_1891 : Cond.methodLink "FalseLightMarshLaw" 374 yX9_setClearness ∈ zTs := z_in (i := 1891) (by decide +kernel) (by decide +kernel)
theorem wl_1895 : Cond.methodLink "FalseLightMarshLaw" 377 yX9_setFog ∈ zTs := z_in (i := 1895) (by decide +kernel) (by decide +kernel)
theorem wl_1899 : Cond.methodLink "FalseLightMarshLaw" 380 yX9_setTarget ∈ zTs := z_in (i := 1899) (by decide +kernel) (by decide +kernel)
theorem wl_1903 : Cond.methodLink "FalseLightMarshLaw" 383 yX9_undo ∈ zTs := z_in (i := 1903) (by decide +kernel) (by decide +kernel)
theorem wl_1907 : Cond.methodLink "FalseLightMarshLaw" 386 yX9_saveSnapshot ∈ zTs := z_in (i := 1907) (by decide +kernel) (by decide +kernel)
theorem wl_1911 : Cond.methodLink "FalseLightMarshLaw" 389 yX9_restoreSnapshot ∈ zTs := z_in (i := 1911) (by decide +kernel) (by decide +kernel)
theorem wl_1915 : Cond.methodLink "FalseLightMarshLaw" 393 yX9_print ∈ zTs := z_in (i := 1915) (by decide +kernel) (by decide +kernel)
theorem wl_1931 : Cond.methodLink "FalseLightMarshLaw" 396 yX9_printedByte ∈ zTs := z_in (i := 1931) (by decide +kernel) (by decide +kernel)
theorem wl_746 : Cond.methodLink "FalseLightMarshLaw" 390 yX8_print ∈ zTs := z_in (i := 746) (by decide +kernel) (by decide +kernel)
theorem dL_law_3057 : decode cL_law 3057 = .ok (.iconst 0, 1) := by decide +kernel
theorem dL_law_3058 : decode cL_law 3058 = .ok (.ireturn, 1) := by decide +kernel
theorem dL_law_3059 : decode cL_law 3059 = .ok (.iload 5, 2) := by decide +kernel
theorem dL_law_3061 : decode cL_law 3061 = .ok (.ifCond .ne 15, 3) := by decide +kernel
theorem dL_law_3064 : decode cL_law 3064 = .ok (.aload_n 3, 1) := by decide +kernel
theorem dL_law_3065 : decode cL_law 3065 = .ok (.iconst 0, 1) := by decide +kernel
theorem dL_law_3066 : decode cL_law 3066 = .ok (.laload, 1) := by decide +kernel
theorem dL_law_3067 : decode cL_law 3067 = .ok (.iload 6, 2) := by decide +kernel
theorem dL_law_3069 : decode cL_law 3069 = .ok (.i2l, 1) := by decide +kernel
theorem dL_law_3070 : decode cL_law 3070 = .ok (.lcmp, 1) := by decide +kernel
theorem dL_law_3071 : decode cL_law 3071 = .ok (.ifCond .eq 5, 3) := by decide +kernel
theorem dL_law_3074 : decode cL_law 3074 = .ok (.iconst 0, 1) := by decide +kernel
theorem dL_law_3075 : decode cL_law 3075 = .ok (.ireturn, 1) := by decide +kernel
theorem dL_law_3076 : decode cL_law 3076 = .ok (.goto 556, 3) := by decide +kernel
theorem dL_law_3079 : decode cL_law 3079 = .ok (.aload_n 1, 1) := by decide +kernel
theorem dL_law_3080 : decode cL_law 3080 = .ok (.aload_n 0, 1) := by decide +kernel
theorem dL_law_3081 : decode cL_law 3081 = .ok (.iload 4, 2) := by decide +kernel
theorem dL_law_3083 : decode cL_law 3083 = .ok (.iconst 1, 1) := by decide +kernel
theorem dL_law_3084 : decode cL_law 3084 = .ok (.iadd, 1) := by decide +kernel
theorem dL_law_3085 : decode cL_law 3085 = .ok (.iaload, 1) := by decide +kernel
theorem dL_law_3086 : decode cL_law 3086 = .ok (.aload_n 3, 1) := by decide +kernel
theorem dL_law_3087 : decode cL_law 3087 = .ok (.invokestatic 365, 3) := by decide +kernel
theorem dL_law_3090 : decode cL_law 3090 = .ok (.istore 5, 2) := by decide +kernel
theorem dL_law_3092 : decode cL_law 3092 = .ok (.aload_n 2, 1) := by decide +kernel
theorem dL_law_3093 : decode cL_law 3093 = .ok (.aload_n 0, 1) := by decide +kernel
theorem dL_law_3094 : decode cL_law 3094 = .ok (.iload 4, 2) := by decide +kernel
theorem dL_law_3096 : decode cL_law 3096 = .ok (.iconst 1, 1) := by decide +kernel
theorem dL_law_3097 : decode cL_law 3097 = .ok (.iadd, 1) := by decide +kernel
theorem dL_law_3098 : decode cL_law 3098 = .ok (.iaload, 1) := by decide +kernel
theorem dL_law_3099 : decode cL_law 3099 = .ok (.invokevirtual 367, 3) := by decide +kernel
theorem dL_law_3102 : decode cL_law 3102 = .ok (.istore 6, 2) := by decide +kernel
theorem dL_law_3104 : decode cL_law 3104 = .ok (.aload_n 2, 1) := by decide +kernel
theorem dL_law_3105 : decode cL_law 3105 = .ok (.invokevirtual 180, 3) := by decide +kernel
theorem dL_law_3108 : decode cL_law 3108 = .ok (.iload 5, 2) := by decide +kernel
theorem dL_law_3110 : decode cL_law 3110 = .ok (.if_icmp .eq 5, 3) := by decide +kernel
theorem dL_law_3113 : decode cL_law 3113 = .ok (.iconst 0, 1) := by decide +kernel
theorem dL_law_3114 : decode cL_law 3114 = .ok (.ireturn, 1) := by decide +kernel
theorem dL_law_3115 : decode cL_law 3115 = .ok (.iload 5, 2) := by decide +kernel
theorem dL_law_3117 : decode cL_law 3117 = .ok (.ifCond .ne 15, 3) := by decide +kernel
theorem dL_law_3120 : decode cL_law 3120 = .ok (.aload_n 3, 1) := by decide +kernel
theorem dL_law_3121 : decode cL_law 3121 = .ok (.iconst 0, 1) := by decide +kernel
theorem dL_law_3122 : decode cL_law 3122 = .ok (.laload, 1) := by decide +kernel
theorem dL_law_3123 : decode cL_law 3123 = .ok (.iload 6, 2) := by decide +kernel
theorem dL_law_3125 : decode cL_law 3125 = .ok (.i2l, 1) := by decide +kernel
theorem dL_law_3126 : decode cL_law 3126 = .ok (.lcmp, 1) := by decide +kernel
theorem dL_law_3127 : decode cL_law 3127 = .ok (.ifCond .eq 5, 3) := by decide +kernel
theorem dL_law_3130 : decode cL_law 3130 = .ok (.iconst 0, 1) := by decide +kernel
theorem dL_law_3131 : decode cL_law 3131 = .ok (.ireturn, 1) := by decide +kernel
theorem dL_law_3132 : decode cL_law 3132 = .ok (.goto 500, 3) := by decide +kernel
theorem dL_law_3135 : decode cL_law 3135 = .ok (.aload_n 1, 1) := by decide +kernel
theorem dL_law_3136 : decode cL_law 3136 = .ok (.aload_n 0, 1) := by decide +kernel
theorem dL_law_3137 : decode cL_law 3137 = .ok (.iload 4, 2) := by decide +kernel
theorem dL_law_3139 : decode cL_law 3139 = .ok (.iconst 1, 1) := by decide +kernel
theorem dL_law_3140 : decode cL_law 3140 = .ok (.iadd, 1) := by decide +kernel
theorem dL_law_3141 : decode cL_law 3141 = .ok (.iaload, 1) := by decide +kernel
theorem dL_law_3142 : decode cL_law 3142 = .ok (.aload_n 0, 1) := by decide +kernel
theorem dL_law_3143 : decode cL_law 3143 = .ok (.iload 4, 2) := by decide +kernel
theorem dL_law_3145 : decode cL_law 3145 = .ok (.iconst 2, 1) := by decide +kernel
theorem dL_law_3146 : decode cL_law 3146 = .ok (.iadd, 1) := by decide +kernel
theorem dL_law_3147 : decode cL_law 3147 = .ok (.iaload, 1) := by decide +kernel
theorem dL_law_3148 : decode cL_law 3148 = .ok (.aload_n 0, 1) := by decide +kernel
theorem dL_law_3149 : decode cL_law 3149 = .ok (.iload 4, 2) := by decide +kernel
theorem dL_law_3151 : decode cL_law 3151 = .ok (.iconst 3, 1) := by decide +kernel
theorem dL_law_3152 : decode cL_law 3152 = .ok (.iadd, 1) := by decide +kernel
theorem tLaw27 {LL : Nat} {xs : Nat → Int32} {N : Nat} : z_AllE (zX1 LL xs N) 1729 (zLK27 LL xs N) :=
  z_ac (j := 1730) rfl (zx_I (sp_iconst dL_law_3057 (by decide +kernel) rfl)) <|
  z_ac (j := 1731) rfl (zx_R (sr_bool dL_law_3058 rfl)) <|
  z_ac (j := 1732) rfl (zx_I (sp_iload dL_law_3059 rfl)) <|
  z_ac (j := 1733) rfl (zx_I (sp_if_ne dL_law_3061 rfl rfl)) <|
  z_ac (j := 1734) rfl (zx_I (sp_aload_n (q := 3) dL_law_3064 rfl rfl)) <|
  z_ac (j := 1735) rfl (zx_I (sp_iconst dL_law_3065 (by decide +kernel) rfl)) <|
  z_ac (j := 1736) rfl (zx_I (sp_lald dL_law_3066 rfl)) <|
  z_ac (j := 1737) rfl (zx_I (sp_iload dL_law_3067 rfl)) <|
  z_ac (j := 1738) rfl (zx_I (sp_i2l dL_law_3069 rfl)) <|
  z_ac (j := 1739) rfl (zx_I (sp_lcmp dL_law_3070 rfl)) <|
  z_ac (j := 1740) rfl (zx_I (sp_if_eq dL_law_3071 rfl rfl)) <|
  z_ac (j := 1741) rfl (zx_I (sp_iconst dL_law_3074 (by decide +kernel) rfl)) <|
  z_ac (j := 1742) rfl (zx_R (sr_bool dL_law_3075 rfl)) <|
  z_ac (j := 1743) rfl (zx_I (sp_goto dL_law_3076 rfl)) <|
  z_ac (j := 1744) rfl (zx_I (sp_aload_n (q := 1) dL_law_3079 rfl rfl)) <|
  z_ac (j := 1745) rfl (zx_I (sp_aload_n (q := 0) dL_law_3080 rfl rfl)) <|
  z_ac (j := 1746) rfl (zx_I (sp_iload dL_law_3081 rfl)) <|
  z_ac (j := 1747) rfl (zx_I (sp_iconst dL_law_3083 (by decide +kernel) rfl)) <|
  z_ac (j := 1748) rfl (zx_I (sp_iadd dL_law_3084 rfl)) <|
  z_ac (j := 1749) rfl (zx_I (sp_sld dL_law_3085 rfl)) <|
  z_ac (j := 1750) rfl (zx_I (sp_aload_n (q := 3) dL_law_3086 rfl rfl)) <|
  z_ac (j := 1751) rfl (zx_W dL_law_3087 wl_1258 qL_clearSuccessor (by decide +kernel) rfl) <|
  z_ac (j := 1752) rfl (zx_I (sp_istore dL_law_3090 (by decide) (fun j hj => by have e : j = 4 := (by omega); subst e; rfl) rfl)) <|
  z_ac (j := 1753) rfl (zx_I (sp_aload_n (q := 2) dL_law_3092 rfl rfl)) <|
  z_ac (j := 1754) rfl (zx_I (sp_aload_n (q := 0) dL_law_3093 rfl rfl)) <|
  z_ac (j := 1755) rfl (zx_I (sp_iload dL_law_3094 rfl)) <|
  z_ac (j := 1756) rfl (zx_I (sp_iconst dL_law_3096 (by decide +kernel) rfl)) <|
  z_ac (j := 1757) rfl (zx_I (sp_iadd dL_law_3097 rfl)) <|
  z_ac (j := 1758) rfl (zx_I (sp_sld dL_law_3098 rfl)) <|
  z_ac (j := 1759) rfl (zx_V dL_law_3099 wl_1883 qX9_clearSuccessor (by decide +kernel) ⟨_, _, rfl⟩ rfl) <|
  z_ac (j := 1760) rfl (zx_I (sp_istoreK dL_law_3102 (by decide) (by decide) rfl)) <|
  z_ac (j := 1761) rfl (zx_I (sp_aload_n (q := 2) dL_law_3104 rfl rfl)) <|
  z_ac (j := 1762) rfl (zx_V dL_law_3105 wl_1416 qX9_thrown (by decide +kernel) ⟨_, _, rfl⟩ rfl) <|
  z_ac (j := 1763) rfl (zx_I (sp_iload dL_law_3108 rfl)) <|
  z_ac (j := 1764) rfl (zx_I (sp_icmp_eq dL_law_3110 rfl rfl)) <|
  z_ac (j := 1765) rfl (zx_I (sp_iconst dL_law_3113 (by decide +kernel) rfl)) <|
  z_ac (j := 1766) rfl (zx_R (sr_bool dL_law_3114 rfl)) <|
  z_ac (j := 1767) rfl (zx_I (sp_iload dL_law_3115 rfl)) <|
  z_ac (j := 1768) rfl (zx_I (sp_if_ne dL_law_3117 rfl rfl)) <|
  z_ac (j := 1769) rfl (zx_I (sp_aload_n (q := 3) dL_law_3120 rfl rfl)) <|
  z_ac (j := 1770) rfl (zx_I (sp_iconst dL_law_3121 (by decide +kernel) rfl)) <|
  z_ac (j := 1771) rfl (zx_I (sp_lald dL_law_3122 rfl)) <|
  z_ac (j := 1772) rfl (zx_I (sp_iload dL_law_3123 rfl)) <|
  z_ac (j := 1773) rfl (zx_I (sp_i2l dL_law_3125 rfl)) <|
  z_ac (j := 1774) rfl (zx_I (sp_lcmp dL_law_3126 rfl)) <|
  z_ac (j := 1775) rfl (zx_I (sp_if_eq dL_law_3127 rfl rfl)) <|
  z_ac (j := 1776) rfl (zx_I (sp_iconst dL_law_3130 (by decide +kernel) rfl)) <|
  z_ac (j := 1777) rfl (zx_R (sr_bool dL_law_3131 rfl)) <|
  z_ac (j := 1778) rfl (zx_I (sp_goto dL_law_3132 rfl)) <|
  z_ac (j := 1779) rfl (zx_I (sp_aload_n (q := 1) dL_law_3135 rfl rfl)) <|
  z_ac (j := 1780) rfl (zx_I (sp_aload_n (q := 0) dL_law_3136 rfl rfl)) <|
  z_ac (j := 1781) rfl (zx_I (sp_iload dL_law_3137 rfl)) <|
  z_ac (j := 1782) rfl (zx_I (sp_iconst dL_law_3139 (by decide +kernel) rfl)) <|
  z_ac (j := 1783) rfl (zx_I (sp_iadd dL_law_3140 rfl)) <|
  z_ac (j := 1784) rfl (zx_I (sp_sld dL_law_3141 rfl)) <|
  z_ac (j := 1785) rfl (zx_I (sp_aload_n (q := 0) dL_law_3142 rfl rfl)) <|
  z_ac (j := 1786) rfl (zx_I (sp_iload dL_law_3143 rfl)) <|
  z_ac (j := 1787) rfl (zx_I (sp_iconst dL_law_3145 (by decide +kernel) rfl)) <|
  z_ac (j := 1788) rfl (zx_I (sp_iadd dL_law_3146 rfl)) <|
  z_ac (j := 1789) rfl (zx_I (sp_sld dL_law_3147 rfl)) <|
  z_ac (j := 1790) rfl (zx_I (sp_aload_n (q := 0) dL_law_3148 rfl rfl)) <|
  z_ac (j := 1791) rfl (zx_I (sp_iload dL_law_3149 rfl)) <|
  z_ac (j := 1792) rfl (zx_I (sp_iconst dL_law_3151 (by decide +kernel) rfl)) <|
  z_ac (j := 1793) rfl (zx_I (sp_iadd dL_law_3152 rfl)) <| z_an
theorem dL_law_3153 : decode cL_law 3153 = .ok (.iaload, 1) := by decide +kernel
theorem dL_law_3154 : decode cL_law 3154 = .ok (.aload_n 3, 1) := by decide +kernel
theorem dL_law_3155 : decode cL_law 3155 = .ok (.invokestatic 368, 3) := by decide +kernel
theorem dL_law_3158 : decode cL_law 3158 = .ok (.istore 5, 2) := by decide +kernel
theorem dL_law_3160 : decode cL_law 3160 = .ok (.aload_n 2, 1) := by decide +kernel
theorem dL_law_3161 : decode cL_law 3161 = .ok (.aload_n 0, 1) := by decide +kernel
theorem dL_law_3162 : decode cL_law 3162 = .ok (.iload 4, 2) := by decide +kernel
theorem dL_law_3164 : decode cL_law 3164 = .ok (.iconst 1, 1) := by decide +kernel
theorem dL_law_3165 : decode cL_law 3165 = .ok (.iadd, 1) := by decide +kernel
theorem dL_law_3166 : decode cL_law 3166 = .ok (.iaload, 1) := by decide +kernel
theorem dL_law_3167 : decode cL_law 3167 = .ok (.aload_n 0, 1) := by decide +kernel
theorem dL_law_3168 : decode cL_law 3168 = .ok (.iload 4, 2) := by decide +kernel
theorem dL_law_3170 : decode cL_law 3170 = .ok (.iconst 2, 1) := by decide +kernel
theorem dL_law_3171 : decode cL_law 3171 = .ok (.iadd, 1) := by decide +kernel
theorem dL_law_3172 : decode cL_law 3172 = .ok (.iaload, 1) := by decide +kernel
theorem dL_law_3173 : decode cL_law 3173 = .ok (.aload_n 0, 1) := by decide +kernel
theorem dL_law_3174 : decode cL_law 3174 = .ok (.iload 4, 2) := by decide +kernel
theorem dL_law_3176 : decode cL_law 3176 = .ok (.iconst 3, 1) := by decide +kernel
theorem dL_law_3177 : decode cL_law 3177 = .ok (.iadd, 1) := by decide +kernel
theorem dL_law_3178 : decode cL_law 3178 = .ok (.iaload, 1) := by decide +kernel
theorem dL_law_3179 : decode cL_law 3179 = .ok (.invokevirtual 371, 3) := by decide +kernel
theorem dL_law_3182 : decode cL_law 3182 = .ok (.istore 6, 2) := by decide +kernel
theorem dL_law_3184 : decode cL_law 3184 = .ok (.aload_n 2, 1) := by decide +kernel
theorem dL_law_3185 : decode cL_law 3185 = .ok (.invokevirtual 180, 3) := by decide +kernel
theorem dL_law_3188 : decode cL_law 3188 = .ok (.iload 5, 2) := by decide +kernel
theorem dL_law_3190 : decode cL_law 3190 = .ok (.if_icmp .eq 5, 3) := by decide +kernel
theorem dL_law_3193 : decode cL_law 3193 = .ok (.iconst 0, 1) := by decide +kernel
theorem dL_law_3194 : decode cL_law 3194 = .ok (.ireturn, 1) := by decide +kernel
theorem dL_law_3195 : decode cL_law 3195 = .ok (.iload 5, 2) := by decide +kernel
theorem dL_law_3197 : decode cL_law 3197 = .ok (.ifCond .ne 15, 3) := by decide +kernel
theorem dL_law_3200 : decode cL_law 3200 = .ok (.aload_n 3, 1) := by decide +kernel
theorem dL_law_3201 : decode cL_law 3201 = .ok (.iconst 0, 1) := by decide +kernel
theorem dL_law_3202 : decode cL_law 3202 = .ok (.laload, 1) := by decide +kernel
theorem dL_law_3203 : decode cL_law 3203 = .ok (.iload 6, 2) := by decide +kernel
theorem dL_law_3205 : decode cL_law 3205 = .ok (.i2l, 1) := by decide +kernel
theorem dL_law_3206 : decode cL_law 3206 = .ok (.lcmp, 1) := by decide +kernel
theorem dL_law_3207 : decode cL_law 3207 = .ok (.ifCond .eq 5, 3) := by decide +kernel
theorem dL_law_3210 : decode cL_law 3210 = .ok (.iconst 0, 1) := by decide +kernel
theorem dL_law_3211 : decode cL_law 3211 = .ok (.ireturn, 1) := by decide +kernel
theorem dL_law_3212 : decode cL_law 3212 = .ok (.goto 420, 3) := by decide +kernel
theorem dL_law_3215 : decode cL_law 3215 = .ok (.aload_n 1, 1) := by decide +kernel
theorem dL_law_3216 : decode cL_law 3216 = .ok (.aload_n 0, 1) := by decide +kernel
theorem dL_law_3217 : decode cL_law 3217 = .ok (.iload 4, 2) := by decide +kernel
theorem dL_law_3219 : decode cL_law 3219 = .ok (.iconst 1, 1) := by decide +kernel
theorem dL_law_3220 : decode cL_law 3220 = .ok (.iadd, 1) := by decide +kernel
theorem dL_law_3221 : decode cL_law 3221 = .ok (.iaload, 1) := by decide +kernel
theorem dL_law_3222 : decode cL_law 3222 = .ok (.aload_n 3, 1) := by decide +kernel
theorem dL_law_3223 : decode cL_law 3223 = .ok (.invokestatic 372, 3) := by decide +kernel
theorem dL_law_3226 : decode cL_law 3226 = .ok (.istore 5, 2) := by decide +kernel
theorem dL_law_3228 : decode cL_law 3228 = .ok (.aload_n 2, 1) := by decide +kernel
theorem dL_law_3229 : decode cL_law 3229 = .ok (.aload_n 0, 1) := by decide +kernel
theorem dL_law_3230 : decode cL_law 3230 = .ok (.iload 4, 2) := by decide +kernel
theorem dL_law_3232 : decode cL_law 3232 = .ok (.iconst 1, 1) := by decide +kernel
theorem dL_law_3233 : decode cL_law 3233 = .ok (.iadd, 1) := by decide +kernel
theorem dL_law_3234 : decode cL_law 3234 = .ok (.iaload, 1) := by decide +kernel
theorem dL_law_3235 : decode cL_law 3235 = .ok (.invokevirtual 374, 3) := by decide +kernel
theorem dL_law_3238 : decode cL_law 3238 = .ok (.istore 6, 2) := by decide +kernel
theorem dL_law_3240 : decode cL_law 3240 = .ok (.aload_n 2, 1) := by decide +kernel
theorem dL_law_3241 : decode cL_law 3241 = .ok (.invokevirtual 180, 3) := by decide +kernel
theorem dL_law_3244 : decode cL_law 3244 = .ok (.iload 5, 2) := by decide +kernel
theorem dL_law_3246 : decode cL_law 3246 = .ok (.if_icmp .eq 5, 3) := by decide +kernel
theorem dL_law_3249 : decode cL_law 3249 = .ok (.iconst 0, 1) := by decide +kernel
theorem dL_law_3250 : decode cL_law 3250 = .ok (.ireturn, 1) := by decide +kernel
theorem dL_law_3251 : decode cL_law 3251 = .ok (.iload 5, 2) := by decide +kernel
theorem tLaw28 {LL : Nat} {xs : Nat → Int32} {N : Nat} : z_AllE (zX1 LL xs N) 1793 (zLK28 LL xs N) :=
  z_ac (j := 1794) rfl (zx_I (sp_sld dL_law_3153 rfl)) <|
  z_ac (j := 1795) rfl (zx_I (sp_aload_n (q := 3) dL_law_3154 rfl rfl)) <|
  z_ac (j := 1796) rfl (zx_W dL_law_3155 wl_1265 qL_layPlank (by decide +kernel) rfl) <|
  z_ac (j := 1797) rfl (zx_I (sp_istore dL_law_3158 (by decide) (fun j hj => by have e : j = 4 := (by omega); subst e; rfl) rfl)) <|
  z_ac (j := 1798) rfl (zx_I (sp_aload_n (q := 2) dL_law_3160 rfl rfl)) <|
  z_ac (j := 1799) rfl (zx_I (sp_aload_n (q := 0) dL_law_3161 rfl rfl)) <|
  z_ac (j := 1800) rfl (zx_I (sp_iload dL_law_3162 rfl)) <|
  z_ac (j := 1801) rfl (zx_I (sp_iconst dL_law_3164 (by decide +kernel) rfl)) <|
  z_ac (j := 1802) rfl (zx_I (sp_iadd dL_law_3165 rfl)) <|
  z_ac (j := 1803) rfl (zx_I (sp_sld dL_law_3166 rfl)) <|
  z_ac (j := 1804) rfl (zx_I (sp_aload_n (q := 0) dL_law_3167 rfl rfl)) <|
  z_ac (j := 1805) rfl (zx_I (sp_iload dL_law_3168 rfl)) <|
  z_ac (j := 1806) rfl (zx_I (sp_iconst dL_law_3170 (by decide +kernel) rfl)) <|
  z_ac (j := 1807) rfl (zx_I (sp_iadd dL_law_3171 rfl)) <|
  z_ac (j := 1808) rfl (zx_I (sp_sld dL_law_3172 rfl)) <|
  z_ac (j := 1809) rfl (zx_I (sp_aload_n (q := 0) dL_law_3173 rfl rfl)) <|
  z_ac (j := 1810) rfl (zx_I (sp_iload dL_law_3174 rfl)) <|
  z_ac (j := 1811) rfl (zx_I (sp_iconst dL_law_3176 (by decide +kernel) rfl)) <|
  z_ac (j := 1812) rfl (zx_I (sp_iadd dL_law_3177 rfl)) <|
  z_ac (j := 1813) rfl (zx_I (sp_sld dL_law_3178 rfl)) <|
  z_ac (j := 1814) rfl (zx_V dL_law_3179 wl_1887 qX9_layPlank (by decide +kernel) ⟨_, _, rfl⟩ rfl) <|
  z_ac (j := 1815) rfl (zx_I (sp_istoreK dL_law_3182 (by decide) (by decide) rfl)) <|
  z_ac (j := 1816) rfl (zx_I (sp_aload_n (q := 2) dL_law_3184 rfl rfl)) <|
  z_ac (j := 1817) rfl (zx_V dL_law_3185 wl_1416 qX9_thrown (by decide +kernel) ⟨_, _, rfl⟩ rfl) <|
  z_ac (j := 1818) rfl (zx_I (sp_iload dL_law_3188 rfl)) <|
  z_ac (j := 1819) rfl (zx_I (sp_icmp_eq dL_law_3190 rfl rfl)) <|
  z_ac (j := 1820) rfl (zx_I (sp_iconst dL_law_3193 (by decide +kernel) rfl)) <|
  z_ac (j := 1821) rfl (zx_R (sr_bool dL_law_3194 rfl)) <|
  z_ac (j := 1822) rfl (zx_I (sp_iload dL_law_3195 rfl)) <|
  z_ac (j := 1823) rfl (zx_I (sp_if_ne dL_law_3197 rfl rfl)) <|
  z_ac (j := 1824) rfl (zx_I (sp_aload_n (q := 3) dL_law_3200 rfl rfl)) <|
  z_ac (j := 1825) rfl (zx_I (sp_iconst dL_law_3201 (by decide +kernel) rfl)) <|
  z_ac (j := 1826) rfl (zx_I (sp_lald dL_law_3202 rfl)) <|
  z_ac (j := 1827) rfl (zx_I (sp_iload dL_law_3203 rfl)) <|
  z_ac (j := 1828) rfl (zx_I (sp_i2l dL_law_3205 rfl)) <|
  z_ac (j := 1829) rfl (zx_I (sp_lcmp dL_law_3206 rfl)) <|
  z_ac (j := 1830) rfl (zx_I (sp_if_eq dL_law_3207 rfl rfl)) <|
  z_ac (j := 1831) rfl (zx_I (sp_iconst dL_law_3210 (by decide +kernel) rfl)) <|
  z_ac (j := 1832) rfl (zx_R (sr_bool dL_law_3211 rfl)) <|
  z_ac (j := 1833) rfl (zx_I (sp_goto dL_law_3212 rfl)) <|
  z_ac (j := 1834) rfl (zx_I (sp_aload_n (q := 1) dL_law_3215 rfl rfl)) <|
  z_ac (j := 1835) rfl (zx_I (sp_aload_n (q := 0) dL_law_3216 rfl rfl)) <|
  z_ac (j := 1836) rfl (zx_I (sp_iload dL_law_3217 rfl)) <|
  z_ac (j := 1837) rfl (zx_I (sp_iconst dL_law_3219 (by decide +kernel) rfl)) <|
  z_ac (j := 1838) rfl (zx_I (sp_iadd dL_law_3220 rfl)) <|
  z_ac (j := 1839) rfl (zx_I (sp_sld dL_law_3221 rfl)) <|
  z_ac (j := 1840) rfl (zx_I (sp_aload_n (q := 3) dL_law_3222 rfl rfl)) <|
  z_ac (j := 1841) rfl (zx_W dL_law_3223 wl_1274 qL_setClearness (by decide +kernel) rfl) <|
  z_ac (j := 1842) rfl (zx_I (sp_istore dL_law_3226 (by decide) (fun j hj => by have e : j = 4 := (by omega); subst e; rfl) rfl)) <|
  z_ac (j := 1843) rfl (zx_I (sp_aload_n (q := 2) dL_law_3228 rfl rfl)) <|
  z_ac (j := 1844) rfl (zx_I (sp_aload_n (q := 0) dL_law_3229 rfl rfl)) <|
  z_ac (j := 1845) rfl (zx_I (sp_iload dL_law_3230 rfl)) <|
  z_ac (j := 1846) rfl (zx_I (sp_iconst dL_law_3232 (by decide +kernel) rfl)) <|
  z_ac (j := 1847) rfl (zx_I (sp_iadd dL_law_3233 rfl)) <|
  z_ac (j := 1848) rfl (zx_I (sp_sld dL_law_3234 rfl)) <|
  z_ac (j := 1849) rfl (zx_V dL_law_3235 wl_1891 qX9_setClearness (by decide +kernel) ⟨_, _, rfl⟩ rfl) <|
  z_ac (j := 1850) rfl (zx_I (sp_istoreK dL_law_3238 (by decide) (by decide) rfl)) <|
  z_ac (j := 1851) rfl (zx_I (sp_aload_n (q := 2) dL_law_3240 rfl rfl)) <|
  z_ac (j := 1852) rfl (zx_V dL_law_3241 wl_1416 qX9_thrown (by decide +kernel) ⟨_, _, rfl⟩ rfl) <|
  z_ac (j := 1853) rfl (zx_I (sp_iload dL_law_3244 rfl)) <|
  z_ac (j := 1854) rfl (zx_I (sp_icmp_eq dL_law_3246 rfl rfl)) <|
  z_ac (j := 1855) rfl (zx_I (sp_iconst dL_law_3249 (by decide +kernel) rfl)) <|
  z_ac (j := 1856) rfl (zx_R (sr_bool dL_law_3250 rfl)) <|
  z_ac (j := 1857) rfl (zx_I (sp_iload dL_law_3251 rfl)) <| z_an
theorem dL_law_3253 : decode cL_law 3253 = .ok (.ifCond .ne 15, 3) := by decide +kernel
theorem dL_law_3256 : decode cL_law 3256 = .ok (.aload_n 3, 1) := by decide +kernel
theorem dL_law_3257 : decode cL_law 3257 = .ok (.iconst 0, 1) := by decide +kernel
theorem dL_law_3258 : decode cL_law 3258 = .ok (.laload, 1) := by decide +kernel
theorem dL_law_3259 : decode cL_law 3259 = .ok (.iload 6, 2) := by decide +kernel
theorem dL_law_3261 : decode cL_law 3261 = .ok (.i2l, 1) := by decide +kernel
theorem dL_law_3262 : decode cL_law 3262 = .ok (.lcmp, 1) := by decide +kernel
theorem dL_law_3263 : decode cL_law 3263 = .ok (.ifCond .eq 5, 3) := by decide +kernel
theorem dL_law_3266 : decode cL_law 3266 = .ok (.iconst 0, 1) := by decide +kernel
theorem dL_law_3267 : decode cL_law 3267 = .ok (.ireturn, 1) := by decide +kernel
theorem dL_law_3268 : decode cL_law 3268 = .ok (.goto 364, 3) := by decide +kernel
theorem dL_law_3271 : decode cL_law 3271 = .ok (.aload_n 1, 1) := by decide +kernel
theorem dL_law_3272 : decode cL_law 3272 = .ok (.aload_n 0, 1) := by decide +kernel
theorem dL_law_3273 : decode cL_law 3273 = .ok (.iload 4, 2) := by decide +kernel
theorem dL_law_3275 : decode cL_law 3275 = .ok (.iconst 1, 1) := by decide +kernel
theorem dL_law_3276 : decode cL_law 3276 = .ok (.iadd, 1) := by decide +kernel
theorem dL_law_3277 : decode cL_law 3277 = .ok (.iaload, 1) := by decide +kernel
theorem dL_law_3278 : decode cL_law 3278 = .ok (.aload_n 0, 1) := by decide +kernel
theorem dL_law_3279 : decode cL_law 3279 = .ok (.iload 4, 2) := by decide +kernel
theorem dL_law_3281 : decode cL_law 3281 = .ok (.iconst 2, 1) := by decide +kernel
theorem dL_law_3282 : decode cL_law 3282 = .ok (.iadd, 1) := by decide +kernel
theorem dL_law_3283 : decode cL_law 3283 = .ok (.iaload, 1) := by decide +kernel
theorem dL_law_3284 : decode cL_law 3284 = .ok (.aload_n 3, 1) := by decide +kernel
theorem dL_law_3285 : decode cL_law 3285 = .ok (.invokestatic 375, 3) := by decide +kernel
theorem dL_law_3288 : decode cL_law 3288 = .ok (.istore 5, 2) := by decide +kernel
theorem dL_law_3290 : decode cL_law 3290 = .ok (.aload_n 2, 1) := by decide +kernel
theorem dL_law_3291 : decode cL_law 3291 = .ok (.aload_n 0, 1) := by decide +kernel
theorem dL_law_3292 : decode cL_law 3292 = .ok (.iload 4, 2) := by decide +kernel
theorem dL_law_3294 : decode cL_law 3294 = .ok (.iconst 1, 1) := by decide +kernel
theorem dL_law_3295 : decode cL_law 3295 = .ok (.iadd, 1) := by decide +kernel
theorem dL_law_3296 : decode cL_law 3296 = .ok (.iaload, 1) := by decide +kernel
theorem dL_law_3297 : decode cL_law 3297 = .ok (.aload_n 0, 1) := by decide +kernel
theorem dL_law_3298 : decode cL_law 3298 = .ok (.iload 4, 2) := by decide +kernel
theorem dL_law_3300 : decode cL_law 3300 = .ok (.iconst 2, 1) := by decide +kernel
theorem dL_law_3301 : decode cL_law 3301 = .ok (.iadd, 1) := by decide +kernel
theorem dL_law_3302 : decode cL_law 3302 = .ok (.iaload, 1) := by decide +kernel
theorem dL_law_3303 : decode cL_law 3303 = .ok (.invokevirtual 377, 3) := by decide +kernel
theorem dL_law_3306 : decode cL_law 3306 = .ok (.istore 6, 2) := by decide +kernel
theorem dL_law_3308 : decode cL_law 3308 = .ok (.aload_n 2, 1) := by decide +kernel
theorem dL_law_3309 : decode cL_law 3309 = .ok (.invokevirtual 180, 3) := by decide +kernel
theorem dL_law_3312 : decode cL_law 3312 = .ok (.iload 5, 2) := by decide +kernel
theorem dL_law_3314 : decode cL_law 3314 = .ok (.if_icmp .eq 5, 3) := by decide +kernel
theorem dL_law_3317 : decode cL_law 3317 = .ok (.iconst 0, 1) := by decide +kernel
theorem dL_law_3318 : decode cL_law 3318 = .ok (.ireturn, 1) := by decide +kernel
theorem dL_law_3319 : decode cL_law 3319 = .ok (.iload 5, 2) := by decide +kernel
theorem dL_law_3321 : decode cL_law 3321 = .ok (.ifCond .ne 15, 3) := by decide +kernel
theorem dL_law_3324 : decode cL_law 3324 = .ok (.aload_n 3, 1) := by decide +kernel
theorem dL_law_3325 : decode cL_law 3325 = .ok (.iconst 0, 1) := by decide +kernel
theorem dL_law_3326 : decode cL_law 3326 = .ok (.laload, 1) := by decide +kernel
theorem dL_law_3327 : decode cL_law 3327 = .ok (.iload 6, 2) := by decide +kernel
theorem dL_law_3329 : decode cL_law 3329 = .ok (.i2l, 1) := by decide +kernel
theorem dL_law_3330 : decode cL_law 3330 = .ok (.lcmp, 1) := by decide +kernel
theorem dL_law_3331 : decode cL_law 3331 = .ok (.ifCond .eq 5, 3) := by decide +kernel
theorem dL_law_3334 : decode cL_law 3334 = .ok (.iconst 0, 1) := by decide +kernel
theorem dL_law_3335 : decode cL_law 3335 = .ok (.ireturn, 1) := by decide +kernel
theorem dL_law_3336 : decode cL_law 3336 = .ok (.goto 296, 3) := by decide +kernel
theorem dL_law_3339 : decode cL_law 3339 = .ok (.aload_n 1, 1) := by decide +kernel
theorem dL_law_3340 : decode cL_law 3340 = .ok (.aload_n 0, 1) := by decide +kernel
theorem dL_law_3341 : decode cL_law 3341 = .ok (.iload 4, 2) := by decide +kernel
theorem dL_law_3343 : decode cL_law 3343 = .ok (.iconst 1, 1) := by decide +kernel
theorem dL_law_3344 : decode cL_law 3344 = .ok (.iadd, 1) := by decide +kernel
theorem dL_law_3345 : decode cL_law 3345 = .ok (.iaload, 1) := by decide +kernel
theorem dL_law_3346 : decode cL_law 3346 = .ok (.aload_n 0, 1) := by decide +kernel
theorem dL_law_3347 : decode cL_law 3347 = .ok (.iload 4, 2) := by decide +kernel
theorem tLaw29 {LL : Nat} {xs : Nat → Int32} {N : Nat} : z_AllE (zX1 LL xs N) 1857 (zLK29 LL xs N) :=
  z_ac (j := 1858) rfl (zx_I (sp_if_ne dL_law_3253 rfl rfl)) <|
  z_ac (j := 1859) rfl (zx_I (sp_aload_n (q := 3) dL_law_3256 rfl rfl)) <|
  z_ac (j := 1860) rfl (zx_I (sp_iconst dL_law_3257 (by decide +kernel) rfl)) <|
  z_ac (j := 1861) rfl (zx_I (sp_lald dL_law_3258 rfl)) <|
  z_ac (j := 1862) rfl (zx_I (sp_iload dL_law_3259 rfl)) <|
  z_ac (j := 1863) rfl (zx_I (sp_i2l dL_law_3261 rfl)) <|
  z_ac (j := 1864) rfl (zx_I (sp_lcmp dL_law_3262 rfl)) <|
  z_ac (j := 1865) rfl (zx_I (sp_if_eq dL_law_3263 rfl rfl)) <|
  z_ac (j := 1866) rfl (zx_I (sp_iconst dL_law_3266 (by decide +kernel) rfl)) <|
  z_ac (j := 1867) rfl (zx_R (sr_bool dL_law_3267 rfl)) <|
  z_ac (j := 1868) rfl (zx_I (sp_goto dL_law_3268 rfl)) <|
  z_ac (j := 1869) rfl (zx_I (sp_aload_n (q := 1) dL_law_3271 rfl rfl)) <|
  z_ac (j := 1870) rfl (zx_I (sp_aload_n (q := 0) dL_law_3272 rfl rfl)) <|
  z_ac (j := 1871) rfl (zx_I (sp_iload dL_law_3273 rfl)) <|
  z_ac (j := 1872) rfl (zx_I (sp_iconst dL_law_3275 (by decide +kernel) rfl)) <|
  z_ac (j := 1873) rfl (zx_I (sp_iadd dL_law_3276 rfl)) <|
  z_ac (j := 1874) rfl (zx_I (sp_sld dL_law_3277 rfl)) <|
  z_ac (j := 1875) rfl (zx_I (sp_aload_n (q := 0) dL_law_3278 rfl rfl)) <|
  z_ac (j := 1876) rfl (zx_I (sp_iload dL_law_3279 rfl)) <|
  z_ac (j := 1877) rfl (zx_I (sp_iconst dL_law_3281 (by decide +kernel) rfl)) <|
  z_ac (j := 1878) rfl (zx_I (sp_iadd dL_law_3282 rfl)) <|
  z_ac (j := 1879) rfl (zx_I (sp_sld dL_law_3283 rfl)) <|
  z_ac (j := 1880) rfl (zx_I (sp_aload_n (q := 3) dL_law_3284 rfl rfl)) <|
  z_ac (j := 1881) rfl (zx_W dL_law_3285 wl_1282 qL_setFog (by decide +kernel) rfl) <|
  z_ac (j := 1882) rfl (zx_I (sp_istore dL_law_3288 (by decide) (fun j hj => by have e : j = 4 := (by omega); subst e; rfl) rfl)) <|
  z_ac (j := 1883) rfl (zx_I (sp_aload_n (q := 2) dL_law_3290 rfl rfl)) <|
  z_ac (j := 1884) rfl (zx_I (sp_aload_n (q := 0) dL_law_3291 rfl rfl)) <|
  z_ac (j := 1885) rfl (zx_I (sp_iload dL_law_3292 rfl)) <|
  z_ac (j := 1886) rfl (zx_I (sp_iconst dL_law_3294 (by decide +kernel) rfl)) <|
  z_ac (j := 1887) rfl (zx_I (sp_iadd dL_law_3295 rfl)) <|
  z_ac (j := 1888) rfl (zx_I (sp_sld dL_law_3296 rfl)) <|
  z_ac (j := 1889) rfl (zx_I (sp_aload_n (q := 0) dL_law_3297 rfl rfl)) <|
  z_ac (j := 1890) rfl (zx_I (sp_iload dL_law_3298 rfl)) <|
  z_ac (j := 1891) rfl (zx_I (sp_iconst dL_law_3300 (by decide +kernel) rfl)) <|
  z_ac (j := 1892) rfl (zx_I (sp_iadd dL_law_3301 rfl)) <|
  z_ac (j := 1893) rfl (zx_I (sp_sld dL_law_3302 rfl)) <|
  z_ac (j := 1894) rfl (zx_V dL_law_3303 wl_1895 qX9_setFog (by decide +kernel) ⟨_, _, rfl⟩ rfl) <|
  z_ac (j := 1895) rfl (zx_I (sp_istoreK dL_law_3306 (by decide) (by decide) rfl)) <|
  z_ac (j := 1896) rfl (zx_I (sp_aload_n (q := 2) dL_law_3308 rfl rfl)) <|
  z_ac (j := 1897) rfl (zx_V dL_law_3309 wl_1416 qX9_thrown (by decide +kernel) ⟨_, _, rfl⟩ rfl) <|
  z_ac (j := 1898) rfl (zx_I (sp_iload dL_law_3312 rfl)) <|
  z_ac (j := 1899) rfl (zx_I (sp_icmp_eq dL_law_3314 rfl rfl)) <|
  z_ac (j := 1900) rfl (zx_I (sp_iconst dL_law_3317 (by decide +kernel) rfl)) <|
  z_ac (j := 1901) rfl (zx_R (sr_bool dL_law_3318 rfl)) <|
  z_ac (j := 1902) rfl (zx_I (sp_iload dL_law_3319 rfl)) <|
  z_ac (j := 1903) rfl (zx_I (sp_if_ne dL_law_3321 rfl rfl)) <|
  z_ac (j := 1904) rfl (zx_I (sp_aload_n (q := 3) dL_law_3324 rfl rfl)) <|
  z_ac (j := 1905) rfl (zx_I (sp_iconst dL_law_3325 (by decide +kernel) rfl)) <|
  z_ac (j := 1906) rfl (zx_I (sp_lald dL_law_3326 rfl)) <|
  z_ac (j := 1907) rfl (zx_I (sp_iload dL_law_3327 rfl)) <|
  z_ac (j := 1908) rfl (zx_I (sp_i2l dL_law_3329 rfl)) <|
  z_ac (j := 1909) rfl (zx_I (sp_lcmp dL_law_3330 rfl)) <|
  z_ac (j := 1910) rfl (zx_I (sp_if_eq dL_law_3331 rfl rfl)) <|
  z_ac (j := 1911) rfl (zx_I (sp_iconst dL_law_3334 (by decide +kernel) rfl)) <|
  z_ac (j := 1912) rfl (zx_R (sr_bool dL_law_3335 rfl)) <|
  z_ac (j := 1913) rfl (zx_I (sp_goto dL_law_3336 rfl)) <|
  z_ac (j := 1914) rfl (zx_I (sp_aload_n (q := 1) dL_law_3339 rfl rfl)) <|
  z_ac (j := 1915) rfl (zx_I (sp_aload_n (q := 0) dL_law_3340 rfl rfl)) <|
  z_ac (j := 1916) rfl (zx_I (sp_iload dL_law_3341 rfl)) <|
  z_ac (j := 1917) rfl (zx_I (sp_iconst dL_law_3343 (by decide +kernel) rfl)) <|
  z_ac (j := 1918) rfl (zx_I (sp_iadd dL_law_3344 rfl)) <|
  z_ac (j := 1919) rfl (zx_I (sp_sld dL_law_3345 rfl)) <|
  z_ac (j := 1920) rfl (zx_I (sp_aload_n (q := 0) dL_law_3346 rfl rfl)) <|
  z_ac (j := 1921) rfl (zx_I (sp_iload dL_law_3347 rfl)) <| z_an
theorem dL_law_3349 : decode cL_law 3349 = .ok (.iconst 2, 1) := by decide +kernel
theorem dL_law_3350 : decode cL_law 3350 = .ok (.iadd, 1) := by decide +kernel
theorem dL_law_3351 : decode cL_law 3351 = .ok (.iaload, 1) := by decide +kernel
theorem dL_law_3352 : decode cL_law 3352 = .ok (.aload_n 3, 1) := by decide +kernel
theorem dL_law_3353 : decode cL_law 3353 = .ok (.invokestatic 378, 3) := by decide +kernel
theorem dL_law_3356 : decode cL_law 3356 = .ok (.istore 5, 2) := by decide +kernel
theorem dL_law_3358 : decode cL_law 3358 = .ok (.aload_n 2, 1) := by decide +kernel
theorem dL_law_3359 : decode cL_law 3359 = .ok (.aload_n 0, 1) := by decide +kernel
theorem dL_law_3360 : decode cL_law 3360 = .ok (.iload 4, 2) := by decide +kernel
theorem dL_law_3362 : decode cL_law 3362 = .ok (.iconst 1, 1) := by decide +kernel
theorem dL_law_3363 : decode cL_law 3363 = .ok (.iadd, 1) := by decide +kernel
theorem dL_law_3364 : decode cL_law 3364 = .ok (.iaload, 1) := by decide +kernel
theorem dL_law_3365 : decode cL_law 3365 = .ok (.aload_n 0, 1) := by decide +kernel
theorem dL_law_3366 : decode cL_law 3366 = .ok (.iload 4, 2) := by decide +kernel
theorem dL_law_3368 : decode cL_law 3368 = .ok (.iconst 2, 1) := by decide +kernel
theorem dL_law_3369 : decode cL_law 3369 = .ok (.iadd, 1) := by decide +kernel
theorem dL_law_3370 : decode cL_law 3370 = .ok (.iaload, 1) := by decide +kernel
theorem dL_law_3371 : decode cL_law 3371 = .ok (.invokevirtual 380, 3) := by decide +kernel
theorem dL_law_3374 : decode cL_law 3374 = .ok (.istore 6, 2) := by decide +kernel
theorem dL_law_3376 : decode cL_law 3376 = .ok (.aload_n 2, 1) := by decide +kernel
theorem dL_law_3377 : decode cL_law 3377 = .ok (.invokevirtual 180, 3) := by decide +kernel
theorem dL_law_3380 : decode cL_law 3380 = .ok (.iload 5, 2) := by decide +kernel
theorem dL_law_3382 : decode cL_law 3382 = .ok (.if_icmp .eq 5, 3) := by decide +kernel
theorem dL_law_3385 : decode cL_law 3385 = .ok (.iconst 0, 1) := by decide +kernel
theorem dL_law_3386 : decode cL_law 3386 = .ok (.ireturn, 1) := by decide +kernel
theorem dL_law_3387 : decode cL_law 3387 = .ok (.iload 5, 2) := by decide +kernel
theorem dL_law_3389 : decode cL_law 3389 = .ok (.ifCond .ne 15, 3) := by decide +kernel
theorem dL_law_3392 : decode cL_law 3392 = .ok (.aload_n 3, 1) := by decide +kernel
theorem dL_law_3393 : decode cL_law 3393 = .ok (.iconst 0, 1) := by decide +kernel
theorem dL_law_3394 : decode cL_law 3394 = .ok (.laload, 1) := by decide +kernel
theorem dL_law_3395 : decode cL_law 3395 = .ok (.iload 6, 2) := by decide +kernel
theorem dL_law_3397 : decode cL_law 3397 = .ok (.i2l, 1) := by decide +kernel
theorem dL_law_3398 : decode cL_law 3398 = .ok (.lcmp, 1) := by decide +kernel
theorem dL_law_3399 : decode cL_law 3399 = .ok (.ifCond .eq 5, 3) := by decide +kernel
theorem dL_law_3402 : decode cL_law 3402 = .ok (.iconst 0, 1) := by decide +kernel
theorem dL_law_3403 : decode cL_law 3403 = .ok (.ireturn, 1) := by decide +kernel
theorem dL_law_3404 : decode cL_law 3404 = .ok (.goto 228, 3) := by decide +kernel
theorem dL_law_3407 : decode cL_law 3407 = .ok (.aload_n 1, 1) := by decide +kernel
theorem dL_law_3408 : decode cL_law 3408 = .ok (.aload_n 3, 1) := by decide +kernel
theorem dL_law_3409 : decode cL_law 3409 = .ok (.invokestatic 381, 3) := by decide +kernel
theorem dL_law_3412 : decode cL_law 3412 = .ok (.istore 5, 2) := by decide +kernel
theorem dL_law_3414 : decode cL_law 3414 = .ok (.aload_n 2, 1) := by decide +kernel
theorem dL_law_3415 : decode cL_law 3415 = .ok (.invokevirtual 383, 3) := by decide +kernel
theorem dL_law_3418 : decode cL_law 3418 = .ok (.istore 6, 2) := by decide +kernel
theorem dL_law_3420 : decode cL_law 3420 = .ok (.aload_n 2, 1) := by decide +kernel
theorem dL_law_3421 : decode cL_law 3421 = .ok (.invokevirtual 180, 3) := by decide +kernel
theorem dL_law_3424 : decode cL_law 3424 = .ok (.iload 5, 2) := by decide +kernel
theorem dL_law_3426 : decode cL_law 3426 = .ok (.if_icmp .eq 5, 3) := by decide +kernel
theorem dL_law_3429 : decode cL_law 3429 = .ok (.iconst 0, 1) := by decide +kernel
theorem dL_law_3430 : decode cL_law 3430 = .ok (.ireturn, 1) := by decide +kernel
theorem dL_law_3431 : decode cL_law 3431 = .ok (.iload 5, 2) := by decide +kernel
theorem dL_law_3433 : decode cL_law 3433 = .ok (.ifCond .ne 15, 3) := by decide +kernel
theorem dL_law_3436 : decode cL_law 3436 = .ok (.aload_n 3, 1) := by decide +kernel
theorem dL_law_3437 : decode cL_law 3437 = .ok (.iconst 0, 1) := by decide +kernel
theorem dL_law_3438 : decode cL_law 3438 = .ok (.laload, 1) := by decide +kernel
theorem dL_law_3439 : decode cL_law 3439 = .ok (.iload 6, 2) := by decide +kernel
theorem dL_law_3441 : decode cL_law 3441 = .ok (.i2l, 1) := by decide +kernel
theorem dL_law_3442 : decode cL_law 3442 = .ok (.lcmp, 1) := by decide +kernel
theorem dL_law_3443 : decode cL_law 3443 = .ok (.ifCond .eq 5, 3) := by decide +kernel
theorem dL_law_3446 : decode cL_law 3446 = .ok (.iconst 0, 1) := by decide +kernel
theorem dL_law_3447 : decode cL_law 3447 = .ok (.ireturn, 1) := by decide +kernel
theorem dL_law_3448 : decode cL_law 3448 = .ok (.goto 184, 3) := by decide +kernel
theorem dL_law_3451 : decode cL_law 3451 = .ok (.aload_n 1, 1) := by decide +kernel
theorem dL_law_3452 : decode cL_law 3452 = .ok (.aload_n 0, 1) := by decide +kernel
theorem tLaw30 {LL : Nat} {xs : Nat → Int32} {N : Nat} : z_AllE (zX1 LL xs N) 1921 (zLK30 LL xs N) :=
  z_ac (j := 1922) rfl (zx_I (sp_iconst dL_law_3349 (by decide +kernel) rfl)) <|
  z_ac (j := 1923) rfl (zx_I (sp_iadd dL_law_3350 rfl)) <|
  z_ac (j := 1924) rfl (zx_I (sp_sld dL_law_3351 rfl)) <|
  z_ac (j := 1925) rfl (zx_I (sp_aload_n (q := 3) dL_law_3352 rfl rfl)) <|
  z_ac (j := 1926) rfl (zx_W dL_law_3353 wl_1290 qL_setTarget (by decide +kernel) rfl) <|
  z_ac (j := 1927) rfl (zx_I (sp_istore dL_law_3356 (by decide) (fun j hj => by have e : j = 4 := (by omega); subst e; rfl) rfl)) <|
  z_ac (j := 1928) rfl (zx_I (sp_aload_n (q := 2) dL_law_3358 rfl rfl)) <|
  z_ac (j := 1929) rfl (zx_I (sp_aload_n (q := 0) dL_law_3359 rfl rfl)) <|
  z_ac (j := 1930) rfl (zx_I (sp_iload dL_law_3360 rfl)) <|
  z_ac (j := 1931) rfl (zx_I (sp_iconst dL_law_3362 (by decide +kernel) rfl)) <|
  z_ac (j := 1932) rfl (zx_I (sp_iadd dL_law_3363 rfl)) <|
  z_ac (j := 1933) rfl (zx_I (sp_sld dL_law_3364 rfl)) <|
  z_ac (j := 1934) rfl (zx_I (sp_aload_n (q := 0) dL_law_3365 rfl rfl)) <|
  z_ac (j := 1935) rfl (zx_I (sp_iload dL_law_3366 rfl)) <|
  z_ac (j := 1936) rfl (zx_I (sp_iconst dL_law_3368 (by decide +kernel) rfl)) <|
  z_ac (j := 1937) rfl (zx_I (sp_iadd dL_law_3369 rfl)) <|
  z_ac (j := 1938) rfl (zx_I (sp_sld dL_law_3370 rfl)) <|
  z_ac (j := 1939) rfl (zx_V dL_law_3371 wl_1899 qX9_setTarget (by decide +kernel) ⟨_, _, rfl⟩ rfl) <|
  z_ac (j := 1940) rfl (zx_I (sp_istoreK dL_law_3374 (by decide) (by decide) rfl)) <|
  z_ac (j := 1941) rfl (zx_I (sp_aload_n (q := 2) dL_law_3376 rfl rfl)) <|
  z_ac (j := 1942) rfl (zx_V dL_law_3377 wl_1416 qX9_thrown (by decide +kernel) ⟨_, _, rfl⟩ rfl) <|
  z_ac (j := 1943) rfl (zx_I (sp_iload dL_law_3380 rfl)) <|
  z_ac (j := 1944) rfl (zx_I (sp_icmp_eq dL_law_3382 rfl rfl)) <|
  z_ac (j := 1945) rfl (zx_I (sp_iconst dL_law_3385 (by decide +kernel) rfl)) <|
  z_ac (j := 1946) rfl (zx_R (sr_bool dL_law_3386 rfl)) <|
  z_ac (j := 1947) rfl (zx_I (sp_iload dL_law_3387 rfl)) <|
  z_ac (j := 1948) rfl (zx_I (sp_if_ne dL_law_3389 rfl rfl)) <|
  z_ac (j := 1949) rfl (zx_I (sp_aload_n (q := 3) dL_law_3392 rfl rfl)) <|
  z_ac (j := 1950) rfl (zx_I (sp_iconst dL_law_3393 (by decide +kernel) rfl)) <|
  z_ac (j := 1951) rfl (zx_I (sp_lald dL_law_3394 rfl)) <|
  z_ac (j := 1952) rfl (zx_I (sp_iload dL_law_3395 rfl)) <|
  z_ac (j := 1953) rfl (zx_I (sp_i2l dL_law_3397 rfl)) <|
  z_ac (j := 1954) rfl (zx_I (sp_lcmp dL_law_3398 rfl)) <|
  z_ac (j := 1955) rfl (zx_I (sp_if_eq dL_law_3399 rfl rfl)) <|
  z_ac (j := 1956) rfl (zx_I (sp_iconst dL_law_3402 (by decide +kernel) rfl)) <|
  z_ac (j := 1957) rfl (zx_R (sr_bool dL_law_3403 rfl)) <|
  z_ac (j := 1958) rfl (zx_I (sp_goto dL_law_3404 rfl)) <|
  z_ac (j := 1959) rfl (zx_I (sp_aload_n (q := 1) dL_law_3407 rfl rfl)) <|
  z_ac (j := 1960) rfl (zx_I (sp_aload_n (q := 3) dL_law_3408 rfl rfl)) <|
  z_ac (j := 1961) rfl (zx_W dL_law_3409 wl_1297 qL_undo (by decide +kernel) rfl) <|
  z_ac (j := 1962) rfl (zx_I (sp_istore dL_law_3412 (by decide) (fun j hj => by have e : j = 4 := (by omega); subst e; rfl) rfl)) <|
  z_ac (j := 1963) rfl (zx_I (sp_aload_n (q := 2) dL_law_3414 rfl rfl)) <|
  z_ac (j := 1964) rfl (zx_V dL_law_3415 wl_1903 qX9_undo (by decide +kernel) ⟨_, _, rfl⟩ rfl) <|
  z_ac (j := 1965) rfl (zx_I (sp_istoreK dL_law_3418 (by decide) (by decide) rfl)) <|
  z_ac (j := 1966) rfl (zx_I (sp_aload_n (q := 2) dL_law_3420 rfl rfl)) <|
  z_ac (j := 1967) rfl (zx_V dL_law_3421 wl_1416 qX9_thrown (by decide +kernel) ⟨_, _, rfl⟩ rfl) <|
  z_ac (j := 1968) rfl (zx_I (sp_iload dL_law_3424 rfl)) <|
  z_ac (j := 1969) rfl (zx_I (sp_icmp_eq dL_law_3426 rfl rfl)) <|
  z_ac (j := 1970) rfl (zx_I (sp_iconst dL_law_3429 (by decide +kernel) rfl)) <|
  z_ac (j := 1971) rfl (zx_R (sr_bool dL_law_3430 rfl)) <|
  z_ac (j := 1972) rfl (zx_I (sp_iload dL_law_3431 rfl)) <|
  z_ac (j := 1973) rfl (zx_I (sp_if_ne dL_law_3433 rfl rfl)) <|
  z_ac (j := 1974) rfl (zx_I (sp_aload_n (q := 3) dL_law_3436 rfl rfl)) <|
  z_ac (j := 1975) rfl (zx_I (sp_iconst dL_law_3437 (by decide +kernel) rfl)) <|
  z_ac (j := 1976) rfl (zx_I (sp_lald dL_law_3438 rfl)) <|
  z_ac (j := 1977) rfl (zx_I (sp_iload dL_law_3439 rfl)) <|
  z_ac (j := 1978) rfl (zx_I (sp_i2l dL_law_3441 rfl)) <|
  z_ac (j := 1979) rfl (zx_I (sp_lcmp dL_law_3442 rfl)) <|
  z_ac (j := 1980) rfl (zx_I (sp_if_eq dL_law_3443 rfl rfl)) <|
  z_ac (j := 1981) rfl (zx_I (sp_iconst dL_law_3446 (by decide +kernel) rfl)) <|
  z_ac (j := 1982) rfl (zx_R (sr_bool dL_law_3447 rfl)) <|
  z_ac (j := 1983) rfl (zx_I (sp_goto dL_law_3448 rfl)) <|
  z_ac (j := 1984) rfl (zx_I (sp_aload_n (q := 1) dL_law_3451 rfl rfl)) <|
  z_ac (j := 1985) rfl (zx_I (sp_aload_n (q := 0) dL_law_3452 rfl rfl)) <| z_an
theorem dL_law_3453 : decode cL_law 3453 = .ok (.iload 4, 2) := by decide +kernel
theorem dL_law_3455 : decode cL_law 3455 = .ok (.iconst 1, 1) := by decide +kernel
theorem dL_law_3456 : decode cL_law 3456 = .ok (.iadd, 1) := by decide +kernel
theorem dL_law_3457 : decode cL_law 3457 = .ok (.iaload, 1) := by decide +kernel
theorem dL_law_3458 : decode cL_law 3458 = .ok (.aload_n 3, 1) := by decide +kernel
theorem dL_law_3459 : decode cL_law 3459 = .ok (.invokestatic 384, 3) := by decide +kernel
theorem dL_law_3462 : decode cL_law 3462 = .ok (.istore 5, 2) := by decide +kernel
theorem dL_law_3464 : decode cL_law 3464 = .ok (.aload_n 2, 1) := by decide +kernel
theorem dL_law_3465 : decode cL_law 3465 = .ok (.aload_n 0, 1) := by decide +kernel
theorem dL_law_3466 : decode cL_law 3466 = .ok (.iload 4, 2) := by decide +kernel
theorem dL_law_3468 : decode cL_law 3468 = .ok (.iconst 1, 1) := by decide +kernel
theorem dL_law_3469 : decode cL_law 3469 = .ok (.iadd, 1) := by decide +kernel
theorem dL_law_3470 : decode cL_law 3470 = .ok (.iaload, 1) := by decide +kernel
theorem dL_law_3471 : decode cL_law 3471 = .ok (.invokevirtual 386, 3) := by decide +kernel
theorem dL_law_3474 : decode cL_law 3474 = .ok (.istore 6, 2) := by decide +kernel
theorem dL_law_3476 : decode cL_law 3476 = .ok (.aload_n 2, 1) := by decide +kernel
theorem dL_law_3477 : decode cL_law 3477 = .ok (.invokevirtual 180, 3) := by decide +kernel
theorem dL_law_3480 : decode cL_law 3480 = .ok (.iload 5, 2) := by decide +kernel
theorem dL_law_3482 : decode cL_law 3482 = .ok (.if_icmp .eq 5, 3) := by decide +kernel
theorem dL_law_3485 : decode cL_law 3485 = .ok (.iconst 0, 1) := by decide +kernel
theorem dL_law_3486 : decode cL_law 3486 = .ok (.ireturn, 1) := by decide +kernel
theorem dL_law_3487 : decode cL_law 3487 = .ok (.iload 5, 2) := by decide +kernel
theorem dL_law_3489 : decode cL_law 3489 = .ok (.ifCond .ne 15, 3) := by decide +kernel
theorem dL_law_3492 : decode cL_law 3492 = .ok (.aload_n 3, 1) := by decide +kernel
theorem dL_law_3493 : decode cL_law 3493 = .ok (.iconst 0, 1) := by decide +kernel
theorem dL_law_3494 : decode cL_law 3494 = .ok (.laload, 1) := by decide +kernel
theorem dL_law_3495 : decode cL_law 3495 = .ok (.iload 6, 2) := by decide +kernel
theorem dL_law_3497 : decode cL_law 3497 = .ok (.i2l, 1) := by decide +kernel
theorem dL_law_3498 : decode cL_law 3498 = .ok (.lcmp, 1) := by decide +kernel
theorem dL_law_3499 : decode cL_law 3499 = .ok (.ifCond .eq 5, 3) := by decide +kernel
theorem dL_law_3502 : decode cL_law 3502 = .ok (.iconst 0, 1) := by decide +kernel
theorem dL_law_3503 : decode cL_law 3503 = .ok (.ireturn, 1) := by decide +kernel
theorem dL_law_3504 : decode cL_law 3504 = .ok (.goto 128, 3) := by decide +kernel
theorem dL_law_3507 : decode cL_law 3507 = .ok (.aload_n 1, 1) := by decide +kernel
theorem dL_law_3508 : decode cL_law 3508 = .ok (.aload_n 0, 1) := by decide +kernel
theorem dL_law_3509 : decode cL_law 3509 = .ok (.iload 4, 2) := by decide +kernel
theorem dL_law_3511 : decode cL_law 3511 = .ok (.iconst 1, 1) := by decide +kernel
theorem dL_law_3512 : decode cL_law 3512 = .ok (.iadd, 1) := by decide +kernel
theorem dL_law_3513 : decode cL_law 3513 = .ok (.iaload, 1) := by decide +kernel
theorem dL_law_3514 : decode cL_law 3514 = .ok (.aload_n 3, 1) := by decide +kernel
theorem dL_law_3515 : decode cL_law 3515 = .ok (.invokestatic 387, 3) := by decide +kernel
theorem dL_law_3518 : decode cL_law 3518 = .ok (.istore 5, 2) := by decide +kernel
theorem dL_law_3520 : decode cL_law 3520 = .ok (.aload_n 2, 1) := by decide +kernel
theorem dL_law_3521 : decode cL_law 3521 = .ok (.aload_n 0, 1) := by decide +kernel
theorem dL_law_3522 : decode cL_law 3522 = .ok (.iload 4, 2) := by decide +kernel
theorem dL_law_3524 : decode cL_law 3524 = .ok (.iconst 1, 1) := by decide +kernel
theorem dL_law_3525 : decode cL_law 3525 = .ok (.iadd, 1) := by decide +kernel
theorem dL_law_3526 : decode cL_law 3526 = .ok (.iaload, 1) := by decide +kernel
theorem dL_law_3527 : decode cL_law 3527 = .ok (.invokevirtual 389, 3) := by decide +kernel
theorem dL_law_3530 : decode cL_law 3530 = .ok (.istore 6, 2) := by decide +kernel
theorem dL_law_3532 : decode cL_law 3532 = .ok (.aload_n 2, 1) := by decide +kernel
theorem dL_law_3533 : decode cL_law 3533 = .ok (.invokevirtual 180, 3) := by decide +kernel
theorem dL_law_3536 : decode cL_law 3536 = .ok (.iload 5, 2) := by decide +kernel
theorem dL_law_3538 : decode cL_law 3538 = .ok (.if_icmp .eq 5, 3) := by decide +kernel
theorem dL_law_3541 : decode cL_law 3541 = .ok (.iconst 0, 1) := by decide +kernel
theorem dL_law_3542 : decode cL_law 3542 = .ok (.ireturn, 1) := by decide +kernel
theorem dL_law_3543 : decode cL_law 3543 = .ok (.iload 5, 2) := by decide +kernel
theorem dL_law_3545 : decode cL_law 3545 = .ok (.ifCond .ne 15, 3) := by decide +kernel
theorem dL_law_3548 : decode cL_law 3548 = .ok (.aload_n 3, 1) := by decide +kernel
theorem dL_law_3549 : decode cL_law 3549 = .ok (.iconst 0, 1) := by decide +kernel
theorem dL_law_3550 : decode cL_law 3550 = .ok (.laload, 1) := by decide +kernel
theorem dL_law_3551 : decode cL_law 3551 = .ok (.iload 6, 2) := by decide +kernel
theorem dL_law_3553 : decode cL_law 3553 = .ok (.i2l, 1) := by decide +kernel
theorem dL_law_3554 : decode cL_law 3554 = .ok (.lcmp, 1) := by decide +kernel
theorem tLaw31 {LL : Nat} {xs : Nat → Int32} {N : Nat} : z_AllE (zX1 LL xs N) 1985 (zLK31 LL xs N) :=
  z_ac (j := 1986) rfl (zx_I (sp_iload dL_law_3453 rfl)) <|
  z_ac (j := 1987) rfl (zx_I (sp_iconst dL_law_3455 (by decide +kernel) rfl)) <|
  z_ac (j := 1988) rfl (zx_I (sp_iadd dL_law_3456 rfl)) <|
  z_ac (j := 1989) rfl (zx_I (sp_sld dL_law_3457 rfl)) <|
  z_ac (j := 1990) rfl (zx_I (sp_aload_n (q := 3) dL_law_3458 rfl rfl)) <|
  z_ac (j := 1991) rfl (zx_W dL_law_3459 wl_1309 qL_saveSnapshot (by decide +kernel) rfl) <|
  z_ac (j := 1992) rfl (zx_I (sp_istore dL_law_3462 (by decide) (fun j hj => by have e : j = 4 := (by omega); subst e; rfl) rfl)) <|
  z_ac (j := 1993) rfl (zx_I (sp_aload_n (q := 2) dL_law_3464 rfl rfl)) <|
  z_ac (j := 1994) rfl (zx_I (sp_aload_n (q := 0) dL_law_3465 rfl rfl)) <|
  z_ac (j := 1995) rfl (zx_I (sp_iload dL_law_3466 rfl)) <|
  z_ac (j := 1996) rfl (zx_I (sp_iconst dL_law_3468 (by decide +kernel) rfl)) <|
  z_ac (j := 1997) rfl (zx_I (sp_iadd dL_law_3469 rfl)) <|
  z_ac (j := 1998) rfl (zx_I (sp_sld dL_law_3470 rfl)) <|
  z_ac (j := 1999) rfl (zx_V dL_law_3471 wl_1907 qX9_saveSnapshot (by decide +kernel) ⟨_, _, rfl⟩ rfl) <|
  z_ac (j := 2000) rfl (zx_I (sp_istoreK dL_law_3474 (by decide) (by decide) rfl)) <|
  z_ac (j := 2001) rfl (zx_I (sp_aload_n (q := 2) dL_law_3476 rfl rfl)) <|
  z_ac (j := 2002) rfl (zx_V dL_law_3477 wl_1416 qX9_thrown (by decide +kernel) ⟨_, _, rfl⟩ rfl) <|
  z_ac (j := 2003) rfl (zx_I (sp_iload dL_law_3480 rfl)) <|
  z_ac (j := 2004) rfl (zx_I (sp_icmp_eq dL_law_3482 rfl rfl)) <|
  z_ac (j := 2005) rfl (zx_I (sp_iconst dL_law_3485 (by decide +kernel) rfl)) <|
  z_ac (j := 2006) rfl (zx_R (sr_bool dL_law_3486 rfl)) <|
  z_ac (j := 2007) rfl (zx_I (sp_iload dL_law_3487 rfl)) <|
  z_ac (j := 2008) rfl (zx_I (sp_if_ne dL_law_3489 rfl rfl)) <|
  z_ac (j := 2009) rfl (zx_I (sp_aload_n (q := 3) dL_law_3492 rfl rfl)) <|
  z_ac (j := 2010) rfl (zx_I (sp_iconst dL_law_3493 (by decide +kernel) rfl)) <|
  z_ac (j := 2011) rfl (zx_I (sp_lald dL_law_3494 rfl)) <|
  z_ac (j := 2012) rfl (zx_I (sp_iload dL_law_3495 rfl)) <|
  z_ac (j := 2013) rfl (zx_I (sp_i2l dL_law_3497 rfl)) <|
  z_ac (j := 2014) rfl (zx_I (sp_lcmp dL_law_3498 rfl)) <|
  z_ac (j := 2015) rfl (zx_I (sp_if_eq dL_law_3499 rfl rfl)) <|
  z_ac (j := 2016) rfl (zx_I (sp_iconst dL_law_3502 (by decide +kernel) rfl)) <|
  z_ac (j := 2017) rfl (zx_R (sr_bool dL_law_3503 rfl)) <|
  z_ac (j := 2018) rfl (zx_I (sp_goto dL_law_3504 rfl)) <|
  z_ac (j := 2019) rfl (zx_I (sp_aload_n (q := 1) dL_law_3507 rfl rfl)) <|
  z_ac (j := 2020) rfl (zx_I (sp_aload_n (q := 0) dL_law_3508 rfl rfl)) <|
  z_ac (j := 2021) rfl (zx_I (sp_iload dL_law_3509 rfl)) <|
  z_ac (j := 2022) rfl (zx_I (sp_iconst dL_law_3511 (by decide +kernel) rfl)) <|
  z_ac (j := 2023) rfl (zx_I (sp_iadd dL_law_3512 rfl)) <|
  z_ac (j := 2024) rfl (zx_I (sp_sld dL_law_3513 rfl)) <|
  z_ac (j := 2025) rfl (zx_I (sp_aload_n (q := 3) dL_law_3514 rfl rfl)) <|
  z_ac (j := 2026) rfl (zx_W dL_law_3515 wl_1321 qL_restoreSnapshot (by decide +kernel) rfl) <|
  z_ac (j := 2027) rfl (zx_I (sp_istore dL_law_3518 (by decide) (fun j hj => by have e : j = 4 := (by omega); subst e; rfl) rfl)) <|
  z_ac (j := 2028) rfl (zx_I (sp_aload_n (q := 2) dL_law_3520 rfl rfl)) <|
  z_ac (j := 2029) rfl (zx_I (sp_aload_n (q := 0) dL_law_3521 rfl rfl)) <|
  z_ac (j := 2030) rfl (zx_I (sp_iload dL_law_3522 rfl)) <|
  z_ac (j := 2031) rfl (zx_I (sp_iconst dL_law_3524 (by decide +kernel) rfl)) <|
  z_ac (j := 2032) rfl (zx_I (sp_iadd dL_law_3525 rfl)) <|
  z_ac (j := 2033) rfl (zx_I (sp_sld dL_law_3526 rfl)) <|
  z_ac (j := 2034) rfl (zx_V dL_law_3527 wl_1911 qX9_restoreSnapshot (by decide +kernel) ⟨_, _, rfl⟩ rfl) <|
  z_ac (j := 2035) rfl (zx_I (sp_istoreK dL_law_3530 (by decide) (by decide) rfl)) <|
  z_ac (j := 2036) rfl (zx_I (sp_aload_n (q := 2) dL_law_3532 rfl rfl)) <|
  z_ac (j := 2037) rfl (zx_V dL_law_3533 wl_1416 qX9_thrown (by decide +kernel) ⟨_, _, rfl⟩ rfl) <|
  z_ac (j := 2038) rfl (zx_I (sp_iload dL_law_3536 rfl)) <|
  z_ac (j := 2039) rfl (zx_I (sp_icmp_eq dL_law_3538 rfl rfl)) <|
  z_ac (j := 2040) rfl (zx_I (sp_iconst dL_law_3541 (by decide +kernel) rfl)) <|
  z_ac (j := 2041) rfl (zx_R (sr_bool dL_law_3542 rfl)) <|
  z_ac (j := 2042) rfl (zx_I (sp_iload dL_law_3543 rfl)) <|
  z_ac (j := 2043) rfl (zx_I (sp_if_ne dL_law_3545 rfl rfl)) <|
  z_ac (j := 2044) rfl (zx_I (sp_aload_n (q := 3) dL_law_3548 rfl rfl)) <|
  z_ac (j := 2045) rfl (zx_I (sp_iconst dL_law_3549 (by decide +kernel) rfl)) <|
  z_ac (j := 2046) rfl (zx_I (sp_lald dL_law_3550 rfl)) <|
  z_ac (j := 2047) rfl (zx_I (sp_iload dL_law_3551 rfl)) <|
  z_ac (j := 2048) rfl (zx_I (sp_i2l dL_law_3553 rfl)) <|
  z_ac (j := 2049) rfl (zx_I (sp_lcmp dL_law_3554 rfl)) <| z_an
theorem dL_law_3555 : decode cL_law 3555 = .ok (.ifCond .eq 5, 3) := by decide +kernel
theorem dL_law_3558 : decode cL_law 3558 = .ok (.iconst 0, 1) := by decide +kernel
theorem dL_law_3559 : decode cL_law 3559 = .ok (.ireturn, 1) := by decide +kernel
theorem dL_law_3560 : decode cL_law 3560 = .ok (.goto 72, 3) := by decide +kernel
theorem dL_law_3563 : decode cL_law 3563 = .ok (.aload_n 1, 1) := by decide +kernel
theorem dL_law_3564 : decode cL_law 3564 = .ok (.invokevirtual 390, 3) := by decide +kernel
theorem dL_law_3567 : decode cL_law 3567 = .ok (.aload_n 2, 1) := by decide +kernel
theorem dL_law_3568 : decode cL_law 3568 = .ok (.invokevirtual 393, 3) := by decide +kernel
theorem dL_law_3571 : decode cL_law 3571 = .ok (.if_icmp .eq 61, 3) := by decide +kernel
theorem dL_law_3574 : decode cL_law 3574 = .ok (.iconst 0, 1) := by decide +kernel
theorem dL_law_3575 : decode cL_law 3575 = .ok (.ireturn, 1) := by decide +kernel
theorem dL_law_3576 : decode cL_law 3576 = .ok (.aload_n 1, 1) := by decide +kernel
theorem dL_law_3577 : decode cL_law 3577 = .ok (.aload_n 0, 1) := by decide +kernel
theorem dL_law_3578 : decode cL_law 3578 = .ok (.iload 4, 2) := by decide +kernel
theorem dL_law_3580 : decode cL_law 3580 = .ok (.iconst 1, 1) := by decide +kernel
theorem dL_law_3581 : decode cL_law 3581 = .ok (.iadd, 1) := by decide +kernel
theorem dL_law_3582 : decode cL_law 3582 = .ok (.iaload, 1) := by decide +kernel
theorem dL_law_3583 : decode cL_law 3583 = .ok (.aload_n 3, 1) := by decide +kernel
theorem dL_law_3584 : decode cL_law 3584 = .ok (.invokestatic 394, 3) := by decide +kernel
theorem dL_law_3587 : decode cL_law 3587 = .ok (.istore 5, 2) := by decide +kernel
theorem dL_law_3589 : decode cL_law 3589 = .ok (.aload_n 2, 1) := by decide +kernel
theorem dL_law_3590 : decode cL_law 3590 = .ok (.aload_n 0, 1) := by decide +kernel
theorem dL_law_3591 : decode cL_law 3591 = .ok (.iload 4, 2) := by decide +kernel
theorem dL_law_3593 : decode cL_law 3593 = .ok (.iconst 1, 1) := by decide +kernel
theorem dL_law_3594 : decode cL_law 3594 = .ok (.iadd, 1) := by decide +kernel
theorem dL_law_3595 : decode cL_law 3595 = .ok (.iaload, 1) := by decide +kernel
theorem dL_law_3596 : decode cL_law 3596 = .ok (.invokevirtual 396, 3) := by decide +kernel
theorem dL_law_3599 : decode cL_law 3599 = .ok (.istore 6, 2) := by decide +kernel
theorem dL_law_3601 : decode cL_law 3601 = .ok (.aload_n 2, 1) := by decide +kernel
theorem dL_law_3602 : decode cL_law 3602 = .ok (.invokevirtual 180, 3) := by decide +kernel
theorem dL_law_3605 : decode cL_law 3605 = .ok (.iload 5, 2) := by decide +kernel
theorem dL_law_3607 : decode cL_law 3607 = .ok (.if_icmp .eq 5, 3) := by decide +kernel
theorem dL_law_3610 : decode cL_law 3610 = .ok (.iconst 0, 1) := by decide +kernel
theorem dL_law_3611 : decode cL_law 3611 = .ok (.ireturn, 1) := by decide +kernel
theorem dL_law_3612 : decode cL_law 3612 = .ok (.iload 5, 2) := by decide +kernel
theorem dL_law_3614 : decode cL_law 3614 = .ok (.ifCond .ne 15, 3) := by decide +kernel
theorem dL_law_3617 : decode cL_law 3617 = .ok (.aload_n 3, 1) := by decide +kernel
theorem dL_law_3618 : decode cL_law 3618 = .ok (.iconst 0, 1) := by decide +kernel
theorem dL_law_3619 : decode cL_law 3619 = .ok (.laload, 1) := by decide +kernel
theorem dL_law_3620 : decode cL_law 3620 = .ok (.iload 6, 2) := by decide +kernel
theorem dL_law_3622 : decode cL_law 3622 = .ok (.i2l, 1) := by decide +kernel
theorem dL_law_3623 : decode cL_law 3623 = .ok (.lcmp, 1) := by decide +kernel
theorem dL_law_3624 : decode cL_law 3624 = .ok (.ifCond .eq 5, 3) := by decide +kernel
theorem dL_law_3627 : decode cL_law 3627 = .ok (.iconst 0, 1) := by decide +kernel
theorem dL_law_3628 : decode cL_law 3628 = .ok (.ireturn, 1) := by decide +kernel
theorem dL_law_3629 : decode cL_law 3629 = .ok (.goto 3, 3) := by decide +kernel
theorem dL_law_3632 : decode cL_law 3632 = .ok (.iinc 4 6, 3) := by decide +kernel
theorem dL_law_3635 : decode cL_law 3635 = .ok (.goto (-3612), 3) := by decide +kernel
theorem dL_law_3638 : decode cL_law 3638 = .ok (.iconst 1, 1) := by decide +kernel
theorem dL_law_3639 : decode cL_law 3639 = .ok (.ireturn, 1) := by decide +kernel
theorem tLaw32 {LL : Nat} {xs : Nat → Int32} {N : Nat} : z_AllE (zX1 LL xs N) 2049 (zLK32 LL xs N) :=
  z_ac (j := 2050) rfl (zx_I (sp_if_eq dL_law_3555 rfl rfl)) <|
  z_ac (j := 2051) rfl (zx_I (sp_iconst dL_law_3558 (by decide +kernel) rfl)) <|
  z_ac (j := 2052) rfl (zx_R (sr_bool dL_law_3559 rfl)) <|
  z_ac (j := 2053) rfl (zx_I (sp_goto dL_law_3560 rfl)) <|
  z_ac (j := 2054) rfl (zx_I (sp_aload_n (q := 1) dL_law_3563 rfl rfl)) <|
  z_ac (j := 2055) rfl (zx_V dL_law_3564 wl_746 qX8_print (by decide +kernel) ⟨_, _, rfl⟩ rfl) <|
  z_ac (j := 2056) rfl (zx_I (sp_aload_n (q := 2) dL_law_3567 rfl rfl)) <|
  z_ac (j := 2057) rfl (zx_V dL_law_3568 wl_1915 qX9_print (by decide +kernel) ⟨_, _, rfl⟩ rfl) <|
  z_ac (j := 2058) rfl (zx_I (sp_icmp_eq dL_law_3571 rfl rfl)) <|
  z_ac (j := 2059) rfl (zx_I (sp_iconst dL_law_3574 (by decide +kernel) rfl)) <|
  z_ac (j := 2060) rfl (zx_R (sr_bool dL_law_3575 rfl)) <|
  z_ac (j := 2061) rfl (zx_I (sp_aload_n (q := 1) dL_law_3576 rfl rfl)) <|
  z_ac (j := 2062) rfl (zx_I (sp_aload_n (q := 0) dL_law_3577 rfl rfl)) <|
  z_ac (j := 2063) rfl (zx_I (sp_iload dL_law_3578 rfl)) <|
  z_ac (j := 2064) rfl (zx_I (sp_iconst dL_law_3580 (by decide +kernel) rfl)) <|
  z_ac (j := 2065) rfl (zx_I (sp_iadd dL_law_3581 rfl)) <|
  z_ac (j := 2066) rfl (zx_I (sp_sld dL_law_3582 rfl)) <|
  z_ac (j := 2067) rfl (zx_I (sp_aload_n (q := 3) dL_law_3583 rfl rfl)) <|
  z_ac (j := 2068) rfl (zx_W dL_law_3584 wl_1329 qL_printedByte (by decide +kernel) rfl) <|
  z_ac (j := 2069) rfl (zx_I (sp_istore dL_law_3587 (by decide) (fun j hj => by have e : j = 4 := (by omega); subst e; rfl) rfl)) <|
  z_ac (j := 2070) rfl (zx_I (sp_aload_n (q := 2) dL_law_3589 rfl rfl)) <|
  z_ac (j := 2071) rfl (zx_I (sp_aload_n (q := 0) dL_law_3590 rfl rfl)) <|
  z_ac (j := 2072) rfl (zx_I (sp_iload dL_law_3591 rfl)) <|
  z_ac (j := 2073) rfl (zx_I (sp_iconst dL_law_3593 (by decide +kernel) rfl)) <|
  z_ac (j := 2074) rfl (zx_I (sp_iadd dL_law_3594 rfl)) <|
  z_ac (j := 2075) rfl (zx_I (sp_sld dL_law_3595 rfl)) <|
  z_ac (j := 2076) rfl (zx_V dL_law_3596 wl_1931 qX9_printedByte (by decide +kernel) ⟨_, _, rfl⟩ rfl) <|
  z_ac (j := 2077) rfl (zx_I (sp_istoreK dL_law_3599 (by decide) (by decide) rfl)) <|
  z_ac (j := 2078) rfl (zx_I (sp_aload_n (q := 2) dL_law_3601 rfl rfl)) <|
  z_ac (j := 2079) rfl (zx_V dL_law_3602 wl_1416 qX9_thrown (by decide +kernel) ⟨_, _, rfl⟩ rfl) <|
  z_ac (j := 2080) rfl (zx_I (sp_iload dL_law_3605 rfl)) <|
  z_ac (j := 2081) rfl (zx_I (sp_icmp_eq dL_law_3607 rfl rfl)) <|
  z_ac (j := 2082) rfl (zx_I (sp_iconst dL_law_3610 (by decide +kernel) rfl)) <|
  z_ac (j := 2083) rfl (zx_R (sr_bool dL_law_3611 rfl)) <|
  z_ac (j := 2084) rfl (zx_I (sp_iload dL_law_3612 rfl)) <|
  z_ac (j := 2085) rfl (zx_I (sp_if_ne dL_law_3614 rfl rfl)) <|
  z_ac (j := 2086) rfl (zx_I (sp_aload_n (q := 3) dL_law_3617 rfl rfl)) <|
  z_ac (j := 2087) rfl (zx_I (sp_iconst dL_law_3618 (by decide +kernel) rfl)) <|
  z_ac (j := 2088) rfl (zx_I (sp_lald dL_law_3619 rfl)) <|
  z_ac (j := 2089) rfl (zx_I (sp_iload dL_law_3620 rfl)) <|
  z_ac (j := 2090) rfl (zx_I (sp_i2l dL_law_3622 rfl)) <|
  z_ac (j := 2091) rfl (zx_I (sp_lcmp dL_law_3623 rfl)) <|
  z_ac (j := 2092) rfl (zx_I (sp_if_eq dL_law_3624 rfl rfl)) <|
  z_ac (j := 2093) rfl (zx_I (sp_iconst dL_law_3627 (by decide +kernel) rfl)) <|
  z_ac (j := 2094) rfl (zx_R (sr_bool dL_law_3628 rfl)) <|
  z_ac (j := 2095) rfl (zx_I (sp_goto dL_law_3629 rfl)) <|
  z_ac (j := 2096) rfl (zx_I (sp_iinc dL_law_3632 (by decide +kernel) (by decide) (fun j hj => by have e : j = 3 := (by omega); subst e; rfl) rfl)) <|
  z_ac (j := 2097) rfl (zx_I (sp_goto dL_law_3635 rfl)) <|
  z_ac (j := 2098) rfl (zx_I (sp_iconst dL_law_3638 (by decide +kernel) rfl)) <|
  z_ac (j := 2099) rfl (zx_R (sr_bool dL_law_3639 rfl)) <| z_an
