/-! THE LAW'S TURNS, 3 (printed by wip/whole/gen_turn.py) -/
theorem tn30 {D : Nat} (hD : 80 ≤ D) : TN D 2024 := by
  intro n I L R nc ns nx T c N w t p l5 l6 x X ⟨q1, q2, q3, q4, q5⟩
  have Y : SAMEB 25 275 [.int (I 0 (x + 1).toNatClampNeg)] := S30
  obtain ⟨b, I1, I2, L1, L2, R1, nc1, ns1, nx1, T', c', N', w', t', p', h1, h2, h5, h6, h7, h8⟩ := Y n I L R nc ns nx T c N w t p X
  have hk : ∀ j, I1 0 j = I 0 j := kp_cf (h1 0)
  have h1 := h1 (D - 14)
  have h2 := h2 (D - 14)
  rw [show D - 14 + 14 = D by omega] at h1 h2
  refine ⟨l5, l6, I2, L2, R1, nc1, ns1, nx1, T', c', N', w', t', p', ?_, h5, h6, h7, h8⟩
  simp only [e284_2024, e284_2025, e284_2026, e284_2028, e284_2029, e284_2030, e284_2031, e284_2034, e284_2035, e284_2036, e284_2038, e284_2039, e284_2040, e284_2041, e284_2044, e284_2047, e284_2048, rk_n, rk_v, nl_n, nl_i, nl_r, cat_n, ip_cat_int, ip_cat_ref, ip_cat_long, ip_rf_some, Nat.reduceAdd, Nat.reduceLeDiff, Nat.reduceLT, Nat.le_refl, Nat.zero_le, q1, q2, q3, q4, q5, hk, h1, h2, Bool.false_eq_true, Bool.true_eq_false, if_true, if_false, not_true_eq_false, not_false_eq_true, zle, eq_self]
theorem tn31 {D : Nat} (hD : 80 ≤ D) : TN D 2049 := by
  intro n I L R nc ns nx T c N w t p l5 l6 x X ⟨q1, q2, q3, q4, q5⟩
  have Y : SAMEX 169 276 [.int (I 0 (x + 1).toNatClampNeg), .int (I 0 (x + 2).toNatClampNeg), .int (I 0 (x + 3).toNatClampNeg)] Int32.toInt64 := S31
  obtain ⟨code, b, I1, I2, L1, L2, R1, nc1, ns1, nx1, T', c', N', w', t', p', h1, h2, h3, h4, h5, h6, h7, h8⟩ := Y n I L R nc ns nx T c N w t p X
  have hk : ∀ j, I1 0 j = I 0 j := kp_cf (h1 0)
  have h1 := h1 (D - 14)
  have h2 := h2 (D - 14)
  rw [show D - 14 + 14 = D by omega] at h1 h2
  simp only [List.cons_append, List.nil_append] at h1
  refine ⟨some (.int code), some (.int b), I2, L2, R1, nc1, ns1, nx1, T', c', N', w', t', p', ?_, h5, h6, h7, h8⟩
  by_cases g : code = 0
  · have h4 := h4 g; subst g
    simp only [e284_2049, e284_2050, e284_2051, e284_2053, e284_2054, e284_2055, e284_2056, e284_2057, e284_2059, e284_2060, e284_2061, e284_2062, e284_2063, e284_2065, e284_2066, e284_2067, e284_2068, e284_2069, e284_2072, e284_2074, e284_2075, e284_2076, e284_2078, e284_2079, e284_2080, e284_2081, e284_2082, e284_2084, e284_2085, e284_2086, e284_2087, e284_2088, e284_2090, e284_2091, e284_2092, e284_2093, e284_2096, e284_2098, e284_2099, e284_2102, e284_2104, e284_2107, e284_2108, e284_2109, e284_2111, e284_2114, e284_2115, e284_2116, e284_2117, e284_2119, e284_2120, e284_2121, e284_2124, e284_2125, e284_2126, rk_n, rk_v, nl_n, nl_i, nl_r, cat_n, ip_cat_int, ip_cat_ref, ip_cat_long, ip_rf_some, Nat.reduceAdd, Nat.reduceLeDiff, Nat.reduceLT, Nat.le_refl, Nat.zero_le, q1, q2, q3, q4, q5, hk, h1, h2, c189, h3, h4, lg_self, ia_lit, inbL, tnL, Bool.false_eq_true, Bool.true_eq_false, if_true, if_false, not_true_eq_false, not_false_eq_true, zle, eq_self]
  · simp only [e284_2049, e284_2050, e284_2051, e284_2053, e284_2054, e284_2055, e284_2056, e284_2057, e284_2059, e284_2060, e284_2061, e284_2062, e284_2063, e284_2065, e284_2066, e284_2067, e284_2068, e284_2069, e284_2072, e284_2074, e284_2075, e284_2076, e284_2078, e284_2079, e284_2080, e284_2081, e284_2082, e284_2084, e284_2085, e284_2086, e284_2087, e284_2088, e284_2090, e284_2091, e284_2092, e284_2093, e284_2096, e284_2098, e284_2099, e284_2102, e284_2104, e284_2107, e284_2108, e284_2109, e284_2111, e284_2114, e284_2115, e284_2116, e284_2117, e284_2119, e284_2120, e284_2121, e284_2124, e284_2125, e284_2126, rk_n, rk_v, nl_n, nl_i, nl_r, cat_n, ip_cat_int, ip_cat_ref, ip_cat_long, ip_rf_some, Nat.reduceAdd, Nat.reduceLeDiff, Nat.reduceLT, Nat.le_refl, Nat.zero_le, q1, q2, q3, q4, q5, hk, h1, h2, c189, h3, g, Bool.false_eq_true, Bool.true_eq_false, if_true, if_false, not_true_eq_false, not_false_eq_true, zle, eq_self]
theorem tn32 {D : Nat} (hD : 80 ≤ D) : TN D 2129 := by
  intro n I L R nc ns nx T c N w t p l5 l6 x X ⟨q1, q2, q3, q4, q5⟩
  have Y : SAMEX 171 259 [.int (I 0 (x + 1).toNatClampNeg), .int (I 0 (x + 2).toNatClampNeg)] Int32.toInt64 := S32
  obtain ⟨code, b, I1, I2, L1, L2, R1, nc1, ns1, nx1, T', c', N', w', t', p', h1, h2, h3, h4, h5, h6, h7, h8⟩ := Y n I L R nc ns nx T c N w t p X
  have hk : ∀ j, I1 0 j = I 0 j := kp_cf (h1 0)
  have h1 := h1 (D - 14)
  have h2 := h2 (D - 14)
  rw [show D - 14 + 14 = D by omega] at h1 h2
  simp only [List.cons_append, List.nil_append] at h1
  refine ⟨some (.int code), some (.int b), I2, L2, R1, nc1, ns1, nx1, T', c', N', w', t', p', ?_, h5, h6, h7, h8⟩
  by_cases g : code = 0
  · have h4 := h4 g; subst g
    simp only [e284_2129, e284_2130, e284_2131, e284_2133, e284_2134, e284_2135, e284_2136, e284_2137, e284_2139, e284_2140, e284_2141, e284_2142, e284_2143, e284_2146, e284_2148, e284_2149, e284_2150, e284_2152, e284_2153, e284_2154, e284_2155, e284_2156, e284_2158, e284_2159, e284_2160, e284_2161, e284_2164, e284_2166, e284_2167, e284_2170, e284_2172, e284_2175, e284_2176, e284_2177, e284_2179, e284_2182, e284_2183, e284_2184, e284_2185, e284_2187, e284_2188, e284_2189, e284_2192, e284_2193, e284_2194, rk_n, rk_v, nl_n, nl_i, nl_r, cat_n, ip_cat_int, ip_cat_ref, ip_cat_long, ip_rf_some, Nat.reduceAdd, Nat.reduceLeDiff, Nat.reduceLT, Nat.le_refl, Nat.zero_le, q1, q2, q3, q4, q5, hk, h1, h2, c189, h3, h4, lg_self, ia_lit, inbL, tnL, Bool.false_eq_true, Bool.true_eq_false, if_true, if_false, not_true_eq_false, not_false_eq_true, zle, eq_self]
  · simp only [e284_2129, e284_2130, e284_2131, e284_2133, e284_2134, e284_2135, e284_2136, e284_2137, e284_2139, e284_2140, e284_2141, e284_2142, e284_2143, e284_2146, e284_2148, e284_2149, e284_2150, e284_2152, e284_2153, e284_2154, e284_2155, e284_2156, e284_2158, e284_2159, e284_2160, e284_2161, e284_2164, e284_2166, e284_2167, e284_2170, e284_2172, e284_2175, e284_2176, e284_2177, e284_2179, e284_2182, e284_2183, e284_2184, e284_2185, e284_2187, e284_2188, e284_2189, e284_2192, e284_2193, e284_2194, rk_n, rk_v, nl_n, nl_i, nl_r, cat_n, ip_cat_int, ip_cat_ref, ip_cat_long, ip_rf_some, Nat.reduceAdd, Nat.reduceLeDiff, Nat.reduceLT, Nat.le_refl, Nat.zero_le, q1, q2, q3, q4, q5, hk, h1, h2, c189, h3, g, Bool.false_eq_true, Bool.true_eq_false, if_true, if_false, not_true_eq_false, not_false_eq_true, zle, eq_self]
theorem tn33 {D : Nat} (hD : 80 ≤ D) : TN D 2197 := by
  intro n I L R nc ns nx T c N w t p l5 l6 x X ⟨q1, q2, q3, q4, q5⟩
  have Y : SAMEX 173 260 [.int (I 0 (x + 1).toNatClampNeg)] Int32.toInt64 := S33
  obtain ⟨code, b, I1, I2, L1, L2, R1, nc1, ns1, nx1, T', c', N', w', t', p', h1, h2, h3, h4, h5, h6, h7, h8⟩ := Y n I L R nc ns nx T c N w t p X
  have hk : ∀ j, I1 0 j = I 0 j := kp_cf (h1 0)
  have h1 := h1 (D - 14)
  have h2 := h2 (D - 14)
  rw [show D - 14 + 14 = D by omega] at h1 h2
  simp only [List.cons_append, List.nil_append] at h1
  refine ⟨some (.int code), some (.int b), I2, L2, R1, nc1, ns1, nx1, T', c', N', w', t', p', ?_, h5, h6, h7, h8⟩
  by_cases g : code = 0
  · have h4 := h4 g; subst g
    simp only [e284_2197, e284_2198, e284_2199, e284_2201, e284_2202, e284_2203, e284_2204, e284_2205, e284_2208, e284_2210, e284_2211, e284_2212, e284_2214, e284_2215, e284_2216, e284_2217, e284_2220, e284_2222, e284_2223, e284_2226, e284_2228, e284_2231, e284_2232, e284_2233, e284_2235, e284_2238, e284_2239, e284_2240, e284_2241, e284_2243, e284_2244, e284_2245, e284_2248, e284_2249, e284_2250, rk_n, rk_v, nl_n, nl_i, nl_r, cat_n, ip_cat_int, ip_cat_ref, ip_cat_long, ip_rf_some, Nat.reduceAdd, Nat.reduceLeDiff, Nat.reduceLT, Nat.le_refl, Nat.zero_le, q1, q2, q3, q4, q5, hk, h1, h2, c189, h3, h4, lg_self, ia_lit, inbL, tnL, Bool.false_eq_true, Bool.true_eq_false, if_true, if_false, not_true_eq_false, not_false_eq_true, zle, eq_self]
  · simp only [e284_2197, e284_2198, e284_2199, e284_2201, e284_2202, e284_2203, e284_2204, e284_2205, e284_2208, e284_2210, e284_2211, e284_2212, e284_2214, e284_2215, e284_2216, e284_2217, e284_2220, e284_2222, e284_2223, e284_2226, e284_2228, e284_2231, e284_2232, e284_2233, e284_2235, e284_2238, e284_2239, e284_2240, e284_2241, e284_2243, e284_2244, e284_2245, e284_2248, e284_2249, e284_2250, rk_n, rk_v, nl_n, nl_i, nl_r, cat_n, ip_cat_int, ip_cat_ref, ip_cat_long, ip_rf_some, Nat.reduceAdd, Nat.reduceLeDiff, Nat.reduceLT, Nat.le_refl, Nat.zero_le, q1, q2, q3, q4, q5, hk, h1, h2, c189, h3, g, Bool.false_eq_true, Bool.true_eq_false, if_true, if_false, not_true_eq_false, not_false_eq_true, zle, eq_self]
theorem tn34 {D : Nat} (hD : 80 ≤ D) : TN D 2253 := by
  intro n I L R nc ns nx T c N w t p l5 l6 x X ⟨q1, q2, q3, q4, q5⟩
  have Y : SAMEB 26 261 [.int (I 0 (x + 1).toNatClampNeg)] := S34
  obtain ⟨b, I1, I2, L1, L2, R1, nc1, ns1, nx1, T', c', N', w', t', p', h1, h2, h5, h6, h7, h8⟩ := Y n I L R nc ns nx T c N w t p X
  have hk : ∀ j, I1 0 j = I 0 j := kp_cf (h1 0)
  have h1 := h1 (D - 14)
  have h2 := h2 (D - 14)
  rw [show D - 14 + 14 = D by omega] at h1 h2
  refine ⟨l5, l6, I2, L2, R1, nc1, ns1, nx1, T', c', N', w', t', p', ?_, h5, h6, h7, h8⟩
  simp only [e284_2253, e284_2254, e284_2255, e284_2257, e284_2258, e284_2259, e284_2260, e284_2263, e284_2264, e284_2265, e284_2267, e284_2268, e284_2269, e284_2270, e284_2273, e284_2276, e284_2277, rk_n, rk_v, nl_n, nl_i, nl_r, cat_n, ip_cat_int, ip_cat_ref, ip_cat_long, ip_rf_some, Nat.reduceAdd, Nat.reduceLeDiff, Nat.reduceLT, Nat.le_refl, Nat.zero_le, q1, q2, q3, q4, q5, hk, h1, h2, Bool.false_eq_true, Bool.true_eq_false, if_true, if_false, not_true_eq_false, not_false_eq_true, zle, eq_self]
theorem tn35 {D : Nat} (hD : 80 ≤ D) : TN D 2278 := by
  intro n I L R nc ns nx T c N w t p l5 l6 x X ⟨q1, q2, q3, q4, q5⟩
  have Y : SAMED 28 277 [] := S35
  obtain ⟨b, I1, I2, L1, L2, R1, nc1, ns1, nx1, T', c', N', w', t', p', h1, h2, h5, h6, h7, h8⟩ := Y n I L R nc ns nx T c N w t p X
  have hk : ∀ j, I1 0 j = I 0 j := kp_cf (h1 0)
  have h1 := h1 (D - 60)
  have h2 := h2 (D - 60)
  rw [show D - 60 + 60 = D by omega] at h1 h2
  refine ⟨l5, l6, I2, L2, R1, nc1, ns1, nx1, T', c', N', w', t', p', ?_, h5, h6, h7, h8⟩
  simp only [e284_2278, e284_2279, e284_2282, e284_2283, e284_2286, e284_2289, e284_2290, rk_n, rk_v, nl_n, nl_i, nl_r, cat_n, ip_cat_int, ip_cat_ref, ip_cat_long, ip_rf_some, Nat.reduceAdd, Nat.reduceLeDiff, Nat.reduceLT, Nat.le_refl, Nat.zero_le, q1, q2, q3, q4, q5, hk, h1, h2, Bool.false_eq_true, Bool.true_eq_false, if_true, if_false, not_true_eq_false, not_false_eq_true, zle, eq_self]
theorem tn36 {D : Nat} (hD : 80 ≤ D) : TN D 2291 := by
  intro n I L R nc ns nx T c N w t p l5 l6 x X ⟨q1, q2, q3, q4, q5⟩
  have Y : SAMEX 175 279 [.int (I 0 (x + 1).toNatClampNeg), .int (I 0 (x + 2).toNatClampNeg)] Int32.toInt64 := S36
  obtain ⟨code, b, I1, I2, L1, L2, R1, nc1, ns1, nx1, T', c', N', w', t', p', h1, h2, h3, h4, h5, h6, h7, h8⟩ := Y n I L R nc ns nx T c N w t p X
  have hk : ∀ j, I1 0 j = I 0 j := kp_cf (h1 0)
  have h1 := h1 (D - 14)
  have h2 := h2 (D - 14)
  rw [show D - 14 + 14 = D by omega] at h1 h2
  simp only [List.cons_append, List.nil_append] at h1
  refine ⟨some (.int code), some (.int b), I2, L2, R1, nc1, ns1, nx1, T', c', N', w', t', p', ?_, h5, h6, h7, h8⟩
  by_cases g : code = 0
  · have h4 := h4 g; subst g
    simp only [e284_2291, e284_2292, e284_2293, e284_2295, e284_2296, e284_2297, e284_2298, e284_2299, e284_2301, e284_2302, e284_2303, e284_2304, e284_2305, e284_2308, e284_2310, e284_2311, e284_2312, e284_2314, e284_2315, e284_2316, e284_2317, e284_2318, e284_2320, e284_2321, e284_2322, e284_2323, e284_2326, e284_2328, e284_2329, e284_2332, e284_2334, e284_2337, e284_2338, e284_2339, e284_2341, e284_2344, e284_2345, e284_2346, e284_2347, e284_2349, e284_2350, e284_2351, e284_2354, e284_2355, e284_2356, rk_n, rk_v, nl_n, nl_i, nl_r, cat_n, ip_cat_int, ip_cat_ref, ip_cat_long, ip_rf_some, Nat.reduceAdd, Nat.reduceLeDiff, Nat.reduceLT, Nat.le_refl, Nat.zero_le, q1, q2, q3, q4, q5, hk, h1, h2, c189, h3, h4, lg_self, ia_lit, inbL, tnL, Bool.false_eq_true, Bool.true_eq_false, if_true, if_false, not_true_eq_false, not_false_eq_true, zle, eq_self]
  · simp only [e284_2291, e284_2292, e284_2293, e284_2295, e284_2296, e284_2297, e284_2298, e284_2299, e284_2301, e284_2302, e284_2303, e284_2304, e284_2305, e284_2308, e284_2310, e284_2311, e284_2312, e284_2314, e284_2315, e284_2316, e284_2317, e284_2318, e284_2320, e284_2321, e284_2322, e284_2323, e284_2326, e284_2328, e284_2329, e284_2332, e284_2334, e284_2337, e284_2338, e284_2339, e284_2341, e284_2344, e284_2345, e284_2346, e284_2347, e284_2349, e284_2350, e284_2351, e284_2354, e284_2355, e284_2356, rk_n, rk_v, nl_n, nl_i, nl_r, cat_n, ip_cat_int, ip_cat_ref, ip_cat_long, ip_rf_some, Nat.reduceAdd, Nat.reduceLeDiff, Nat.reduceLT, Nat.le_refl, Nat.zero_le, q1, q2, q3, q4, q5, hk, h1, h2, c189, h3, g, Bool.false_eq_true, Bool.true_eq_false, if_true, if_false, not_true_eq_false, not_false_eq_true, zle, eq_self]
theorem tn37 {D : Nat} (hD : 80 ≤ D) : TN D 2359 := by
  intro n I L R nc ns nx T c N w t p l5 l6 x X ⟨q1, q2, q3, q4, q5⟩
  have Y : SAMEX 179 281 [.int (I 0 (x + 1).toNatClampNeg), .int (I 0 (x + 2).toNatClampNeg)] Int32.toInt64 := S37
  obtain ⟨code, b, I1, I2, L1, L2, R1, nc1, ns1, nx1, T', c', N', w', t', p', h1, h2, h3, h4, h5, h6, h7, h8⟩ := Y n I L R nc ns nx T c N w t p X
  have hk : ∀ j, I1 0 j = I 0 j := kp_cf (h1 0)
  have h1 := h1 (D - 14)
  have h2 := h2 (D - 14)
  rw [show D - 14 + 14 = D by omega] at h1 h2
  simp only [List.cons_append, List.nil_append] at h1
  refine ⟨some (.int code), some (.int b), I2, L2, R1, nc1, ns1, nx1, T', c', N', w', t', p', ?_, h5, h6, h7, h8⟩
  by_cases g : code = 0
  · have h4 := h4 g; subst g
    simp only [e284_2359, e284_2360, e284_2361, e284_2363, e284_2364, e284_2365, e284_2366, e284_2367, e284_2369, e284_2370, e284_2371, e284_2372, e284_2373, e284_2376, e284_2378, e284_2379, e284_2380, e284_2382, e284_2383, e284_2384, e284_2385, e284_2386, e284_2388, e284_2389, e284_2390, e284_2391, e284_2394, e284_2396, e284_2397, e284_2400, e284_2402, e284_2405, e284_2406, e284_2407, e284_2409, e284_2412, e284_2413, e284_2414, e284_2415, e284_2417, e284_2418, e284_2419, e284_2422, e284_2423, e284_2424, rk_n, rk_v, nl_n, nl_i, nl_r, cat_n, ip_cat_int, ip_cat_ref, ip_cat_long, ip_rf_some, Nat.reduceAdd, Nat.reduceLeDiff, Nat.reduceLT, Nat.le_refl, Nat.zero_le, q1, q2, q3, q4, q5, hk, h1, h2, c189, h3, h4, lg_self, ia_lit, inbL, tnL, Bool.false_eq_true, Bool.true_eq_false, if_true, if_false, not_true_eq_false, not_false_eq_true, zle, eq_self]
  · simp only [e284_2359, e284_2360, e284_2361, e284_2363, e284_2364, e284_2365, e284_2366, e284_2367, e284_2369, e284_2370, e284_2371, e284_2372, e284_2373, e284_2376, e284_2378, e284_2379, e284_2380, e284_2382, e284_2383, e284_2384, e284_2385, e284_2386, e284_2388, e284_2389, e284_2390, e284_2391, e284_2394, e284_2396, e284_2397, e284_2400, e284_2402, e284_2405, e284_2406, e284_2407, e284_2409, e284_2412, e284_2413, e284_2414, e284_2415, e284_2417, e284_2418, e284_2419, e284_2422, e284_2423, e284_2424, rk_n, rk_v, nl_n, nl_i, nl_r, cat_n, ip_cat_int, ip_cat_ref, ip_cat_long, ip_rf_some, Nat.reduceAdd, Nat.reduceLeDiff, Nat.reduceLT, Nat.le_refl, Nat.zero_le, q1, q2, q3, q4, q5, hk, h1, h2, c189, h3, g, Bool.false_eq_true, Bool.true_eq_false, if_true, if_false, not_true_eq_false, not_false_eq_true, zle, eq_self]
theorem tn38 {D : Nat} (hD : 80 ≤ D) : TN D 2427 := by
  intro n I L R nc ns nx T c N w t p l5 l6 x X ⟨q1, q2, q3, q4, q5⟩
  have Y : SAMEX 181 282 [.int (I 0 (x + 1).toNatClampNeg), .int (I 0 (x + 2).toNatClampNeg)] Int32.toInt64 := S38
  obtain ⟨code, b, I1, I2, L1, L2, R1, nc1, ns1, nx1, T', c', N', w', t', p', h1, h2, h3, h4, h5, h6, h7, h8⟩ := Y n I L R nc ns nx T c N w t p X
  have hk : ∀ j, I1 0 j = I 0 j := kp_cf (h1 0)
  have h1 := h1 (D - 14)
  have h2 := h2 (D - 14)
  rw [show D - 14 + 14 = D by omega] at h1 h2
  simp only [List.cons_append, List.nil_append] at h1
  refine ⟨some (.int code), some (.int b), I2, L2, R1, nc1, ns1, nx1, T', c', N', w', t', p', ?_, h5, h6, h7, h8⟩
  by_cases g : code = 0
  · have h4 := h4 g; subst g
    simp only [e284_2427, e284_2428, e284_2429, e284_2431, e284_2432, e284_2433, e284_2434, e284_2435, e284_2437, e284_2438, e284_2439, e284_2440, e284_2441, e284_2444, e284_2446, e284_2447, e284_2448, e284_2450, e284_2451, e284_2452, e284_2453, e284_2454, e284_2456, e284_2457, e284_2458, e284_2459, e284_2462, e284_2464, e284_2465, e284_2468, e284_2470, e284_2473, e284_2474, e284_2475, e284_2477, e284_2480, e284_2481, e284_2482, e284_2483, e284_2485, e284_2486, e284_2487, e284_2490, e284_2491, e284_2492, rk_n, rk_v, nl_n, nl_i, nl_r, cat_n, ip_cat_int, ip_cat_ref, ip_cat_long, ip_rf_some, Nat.reduceAdd, Nat.reduceLeDiff, Nat.reduceLT, Nat.le_refl, Nat.zero_le, q1, q2, q3, q4, q5, hk, h1, h2, c189, h3, h4, lg_self, ia_lit, inbL, tnL, Bool.false_eq_true, Bool.true_eq_false, if_true, if_false, not_true_eq_false, not_false_eq_true, zle, eq_self]
  · simp only [e284_2427, e284_2428, e284_2429, e284_2431, e284_2432, e284_2433, e284_2434, e284_2435, e284_2437, e284_2438, e284_2439, e284_2440, e284_2441, e284_2444, e284_2446, e284_2447, e284_2448, e284_2450, e284_2451, e284_2452, e284_2453, e284_2454, e284_2456, e284_2457, e284_2458, e284_2459, e284_2462, e284_2464, e284_2465, e284_2468, e284_2470, e284_2473, e284_2474, e284_2475, e284_2477, e284_2480, e284_2481, e284_2482, e284_2483, e284_2485, e284_2486, e284_2487, e284_2490, e284_2491, e284_2492, rk_n, rk_v, nl_n, nl_i, nl_r, cat_n, ip_cat_int, ip_cat_ref, ip_cat_long, ip_rf_some, Nat.reduceAdd, Nat.reduceLeDiff, Nat.reduceLT, Nat.le_refl, Nat.zero_le, q1, q2, q3, q4, q5, hk, h1, h2, c189, h3, g, Bool.false_eq_true, Bool.true_eq_false, if_true, if_false, not_true_eq_false, not_false_eq_true, zle, eq_self]
theorem tn39 {D : Nat} (hD : 80 ≤ D) : TN D 2495 := by
  intro n I L R nc ns nx T c N w t p l5 l6 x X ⟨q1, q2, q3, q4, q5⟩
  have Y : SAMEB 34 283 [.int (I 0 (x + 1).toNatClampNeg)] := S39
  obtain ⟨b, I1, I2, L1, L2, R1, nc1, ns1, nx1, T', c', N', w', t', p', h1, h2, h5, h6, h7, h8⟩ := Y n I L R nc ns nx T c N w t p X
  have hk : ∀ j, I1 0 j = I 0 j := kp_cf (h1 0)
  have h1 := h1 (D - 14)
  have h2 := h2 (D - 14)
  rw [show D - 14 + 14 = D by omega] at h1 h2
  refine ⟨l5, l6, I2, L2, R1, nc1, ns1, nx1, T', c', N', w', t', p', ?_, h5, h6, h7, h8⟩
  simp only [e284_2495, e284_2496, e284_2497, e284_2499, e284_2500, e284_2501, e284_2502, e284_2505, e284_2506, e284_2507, e284_2509, e284_2510, e284_2511, e284_2512, e284_2515, e284_2518, e284_2519, rk_n, rk_v, nl_n, nl_i, nl_r, cat_n, ip_cat_int, ip_cat_ref, ip_cat_long, ip_rf_some, Nat.reduceAdd, Nat.reduceLeDiff, Nat.reduceLT, Nat.le_refl, Nat.zero_le, q1, q2, q3, q4, q5, hk, h1, h2, Bool.false_eq_true, Bool.true_eq_false, if_true, if_false, not_true_eq_false, not_false_eq_true, zle, eq_self]
