/-! ===== the law itself, read ===== -/
theorem dL_law_2121 : decode cL_law 2121 = .ok (.ifCond .eq 5, 3) := by decide +kernel
theorem dL_law_2124 : decode cL_law 2124 = .ok (.iconst 0, 1) := by decide +kernel
theorem dL_law_2125 : decode cL_law 2125 = .ok (.ireturn, 1) := by decide +kernel
theorem dL_law_2126 : decode cL_law 2126 = .ok (.goto 623, 3) := by decide +kernel
theorem dL_law_2129 : decode cL_law 2129 = .ok (.aload_n 1, 1) := by decide +kernel
theorem dL_law_2130 : decode cL_law 2130 = .ok (.aload_n 0, 1) := by decide +kernel
theorem dL_law_2131 : decode cL_law 2131 = .ok (.iload 4, 2) := by decide +kernel
theorem dL_law_2133 : decode cL_law 2133 = .ok (.iconst 1, 1) := by decide +kernel
theorem dL_law_2134 : decode cL_law 2134 = .ok (.iadd, 1) := by decide +kernel
theorem dL_law_2135 : decode cL_law 2135 = .ok (.iaload, 1) := by decide +kernel
theorem dL_law_2136 : decode cL_law 2136 = .ok (.aload_n 0, 1) := by decide +kernel
theorem dL_law_2137 : decode cL_law 2137 = .ok (.iload 4, 2) := by decide +kernel
theorem dL_law_2139 : decode cL_law 2139 = .ok (.iconst 2, 1) := by decide +kernel
theorem dL_law_2140 : decode cL_law 2140 = .ok (.iadd, 1) := by decide +kernel
theorem dL_law_2141 : decode cL_law 2141 = .ok (.iaload, 1) := by decide +kernel
theorem dL_law_2142 : decode cL_law 2142 = .ok (.aload_n 3, 1) := by decide +kernel
theorem dL_law_2143 : decode cL_law 2143 = .ok (.invokestatic 250, 3) := by decide +kernel
theorem dL_law_2146 : decode cL_law 2146 = .ok (.istore 5, 2) := by decide +kernel
theorem dL_law_2148 : decode cL_law 2148 = .ok (.aload_n 2, 1) := by decide +kernel
theorem dL_law_2149 : decode cL_law 2149 = .ok (.aload_n 0, 1) := by decide +kernel
theorem dL_law_2150 : decode cL_law 2150 = .ok (.iload 4, 2) := by decide +kernel
theorem dL_law_2152 : decode cL_law 2152 = .ok (.iconst 1, 1) := by decide +kernel
theorem dL_law_2153 : decode cL_law 2153 = .ok (.iadd, 1) := by decide +kernel
theorem dL_law_2154 : decode cL_law 2154 = .ok (.iaload, 1) := by decide +kernel
theorem dL_law_2155 : decode cL_law 2155 = .ok (.aload_n 0, 1) := by decide +kernel
theorem dL_law_2156 : decode cL_law 2156 = .ok (.iload 4, 2) := by decide +kernel
theorem dL_law_2158 : decode cL_law 2158 = .ok (.iconst 2, 1) := by decide +kernel
theorem dL_law_2159 : decode cL_law 2159 = .ok (.iadd, 1) := by decide +kernel
theorem dL_law_2160 : decode cL_law 2160 = .ok (.iaload, 1) := by decide +kernel
theorem dL_law_2161 : decode cL_law 2161 = .ok (.invokevirtual 252, 3) := by decide +kernel
theorem dL_law_2164 : decode cL_law 2164 = .ok (.istore 6, 2) := by decide +kernel
theorem dL_law_2166 : decode cL_law 2166 = .ok (.aload_n 2, 1) := by decide +kernel
theorem dL_law_2167 : decode cL_law 2167 = .ok (.invokevirtual 145, 3) := by decide +kernel
theorem dL_law_2170 : decode cL_law 2170 = .ok (.iload 5, 2) := by decide +kernel
theorem dL_law_2172 : decode cL_law 2172 = .ok (.if_icmp .eq 5, 3) := by decide +kernel
theorem dL_law_2175 : decode cL_law 2175 = .ok (.iconst 0, 1) := by decide +kernel
theorem dL_law_2176 : decode cL_law 2176 = .ok (.ireturn, 1) := by decide +kernel
theorem dL_law_2177 : decode cL_law 2177 = .ok (.iload 5, 2) := by decide +kernel
theorem dL_law_2179 : decode cL_law 2179 = .ok (.ifCond .ne 15, 3) := by decide +kernel
theorem dL_law_2182 : decode cL_law 2182 = .ok (.aload_n 3, 1) := by decide +kernel
theorem dL_law_2183 : decode cL_law 2183 = .ok (.iconst 0, 1) := by decide +kernel
theorem dL_law_2184 : decode cL_law 2184 = .ok (.laload, 1) := by decide +kernel
theorem dL_law_2185 : decode cL_law 2185 = .ok (.iload 6, 2) := by decide +kernel
theorem dL_law_2187 : decode cL_law 2187 = .ok (.i2l, 1) := by decide +kernel
theorem dL_law_2188 : decode cL_law 2188 = .ok (.lcmp, 1) := by decide +kernel
theorem dL_law_2189 : decode cL_law 2189 = .ok (.ifCond .eq 5, 3) := by decide +kernel
theorem dL_law_2192 : decode cL_law 2192 = .ok (.iconst 0, 1) := by decide +kernel
theorem dL_law_2193 : decode cL_law 2193 = .ok (.ireturn, 1) := by decide +kernel
theorem dL_law_2194 : decode cL_law 2194 = .ok (.goto 555, 3) := by decide +kernel
theorem dL_law_2197 : decode cL_law 2197 = .ok (.aload_n 1, 1) := by decide +kernel
theorem dL_law_2198 : decode cL_law 2198 = .ok (.aload_n 0, 1) := by decide +kernel
theorem dL_law_2199 : decode cL_law 2199 = .ok (.iload 4, 2) := by decide +kernel
theorem dL_law_2201 : decode cL_law 2201 = .ok (.iconst 1, 1) := by decide +kernel
theorem dL_law_2202 : decode cL_law 2202 = .ok (.iadd, 1) := by decide +kernel
theorem dL_law_2203 : decode cL_law 2203 = .ok (.iaload, 1) := by decide +kernel
theorem dL_law_2204 : decode cL_law 2204 = .ok (.aload_n 0, 1) := by decide +kernel
theorem dL_law_2205 : decode cL_law 2205 = .ok (.iload 4, 2) := by decide +kernel
theorem dL_law_2207 : decode cL_law 2207 = .ok (.iconst 2, 1) := by decide +kernel
theorem dL_law_2208 : decode cL_law 2208 = .ok (.iadd, 1) := by decide +kernel
theorem dL_law_2209 : decode cL_law 2209 = .ok (.iaload, 1) := by decide +kernel
theorem dL_law_2210 : decode cL_law 2210 = .ok (.aload_n 0, 1) := by decide +kernel
theorem dL_law_2211 : decode cL_law 2211 = .ok (.iload 4, 2) := by decide +kernel
theorem dL_law_2213 : decode cL_law 2213 = .ok (.iconst 3, 1) := by decide +kernel
theorem dL_law_2214 : decode cL_law 2214 = .ok (.iadd, 1) := by decide +kernel
theorem dL_law_2215 : decode cL_law 2215 = .ok (.iaload, 1) := by decide +kernel
theorem dL_law_2216 : decode cL_law 2216 = .ok (.aload_n 3, 1) := by decide +kernel
theorem dL_law_2217 : decode cL_law 2217 = .ok (.invokestatic 253, 3) := by decide +kernel
theorem dL_law_2220 : decode cL_law 2220 = .ok (.istore 5, 2) := by decide +kernel
theorem dL_law_2222 : decode cL_law 2222 = .ok (.aload_n 2, 1) := by decide +kernel
theorem dL_law_2223 : decode cL_law 2223 = .ok (.aload_n 0, 1) := by decide +kernel
theorem dL_law_2224 : decode cL_law 2224 = .ok (.iload 4, 2) := by decide +kernel
theorem dL_law_2226 : decode cL_law 2226 = .ok (.iconst 1, 1) := by decide +kernel
theorem dL_law_2227 : decode cL_law 2227 = .ok (.iadd, 1) := by decide +kernel
theorem dL_law_2228 : decode cL_law 2228 = .ok (.iaload, 1) := by decide +kernel
theorem dL_law_2229 : decode cL_law 2229 = .ok (.aload_n 0, 1) := by decide +kernel
theorem dL_law_2230 : decode cL_law 2230 = .ok (.iload 4, 2) := by decide +kernel
theorem dL_law_2232 : decode cL_law 2232 = .ok (.iconst 2, 1) := by decide +kernel
theorem dL_law_2233 : decode cL_law 2233 = .ok (.iadd, 1) := by decide +kernel
theorem dL_law_2234 : decode cL_law 2234 = .ok (.iaload, 1) := by decide +kernel
theorem dL_law_2235 : decode cL_law 2235 = .ok (.aload_n 0, 1) := by decide +kernel
theorem dL_law_2236 : decode cL_law 2236 = .ok (.iload 4, 2) := by decide +kernel
theorem dL_law_2238 : decode cL_law 2238 = .ok (.iconst 3, 1) := by decide +kernel
theorem dL_law_2239 : decode cL_law 2239 = .ok (.iadd, 1) := by decide +kernel
theorem dL_law_2240 : decode cL_law 2240 = .ok (.iaload, 1) := by decide +kernel
theorem dL_law_2241 : decode cL_law 2241 = .ok (.invokevirtual 255, 3) := by decide +kernel
theorem dL_law_2244 : decode cL_law 2244 = .ok (.istore 6, 2) := by decide +kernel
theorem dL_law_2246 : decode cL_law 2246 = .ok (.aload_n 2, 1) := by decide +kernel
theorem dL_law_2247 : decode cL_law 2247 = .ok (.invokevirtual 145, 3) := by decide +kernel
theorem dL_law_2250 : decode cL_law 2250 = .ok (.iload 5, 2) := by decide +kernel
theorem dL_law_2252 : decode cL_law 2252 = .ok (.if_icmp .eq 5, 3) := by decide +kernel
theorem dL_law_2255 : decode cL_law 2255 = .ok (.iconst 0, 1) := by decide +kernel
theorem dL_law_2256 : decode cL_law 2256 = .ok (.ireturn, 1) := by decide +kernel
theorem dL_law_2257 : decode cL_law 2257 = .ok (.iload 5, 2) := by decide +kernel
theorem dL_law_2259 : decode cL_law 2259 = .ok (.ifCond .ne 15, 3) := by decide +kernel
theorem dL_law_2262 : decode cL_law 2262 = .ok (.aload_n 3, 1) := by decide +kernel
theorem dL_law_2263 : decode cL_law 2263 = .ok (.iconst 0, 1) := by decide +kernel
theorem dL_law_2264 : decode cL_law 2264 = .ok (.laload, 1) := by decide +kernel
theorem dL_law_2265 : decode cL_law 2265 = .ok (.iload 6, 2) := by decide +kernel
theorem dL_law_2267 : decode cL_law 2267 = .ok (.i2l, 1) := by decide +kernel
theorem dL_law_2268 : decode cL_law 2268 = .ok (.lcmp, 1) := by decide +kernel
theorem dL_law_2269 : decode cL_law 2269 = .ok (.ifCond .eq 5, 3) := by decide +kernel
theorem dL_law_2272 : decode cL_law 2272 = .ok (.iconst 0, 1) := by decide +kernel
theorem dL_law_2273 : decode cL_law 2273 = .ok (.ireturn, 1) := by decide +kernel
theorem dL_law_2274 : decode cL_law 2274 = .ok (.goto 475, 3) := by decide +kernel
theorem dL_law_2277 : decode cL_law 2277 = .ok (.aload_n 1, 1) := by decide +kernel
theorem dL_law_2278 : decode cL_law 2278 = .ok (.aload_n 0, 1) := by decide +kernel
theorem dL_law_2279 : decode cL_law 2279 = .ok (.iload 4, 2) := by decide +kernel
theorem dL_law_2281 : decode cL_law 2281 = .ok (.iconst 1, 1) := by decide +kernel
theorem dL_law_2282 : decode cL_law 2282 = .ok (.iadd, 1) := by decide +kernel
theorem dL_law_2283 : decode cL_law 2283 = .ok (.iaload, 1) := by decide +kernel
theorem dL_law_2284 : decode cL_law 2284 = .ok (.aload_n 0, 1) := by decide +kernel
theorem dL_law_2285 : decode cL_law 2285 = .ok (.iload 4, 2) := by decide +kernel
theorem dL_law_2287 : decode cL_law 2287 = .ok (.iconst 2, 1) := by decide +kernel
theorem dL_law_2288 : decode cL_law 2288 = .ok (.iadd, 1) := by decide +kernel
theorem dL_law_2289 : decode cL_law 2289 = .ok (.iaload, 1) := by decide +kernel
theorem dL_law_2290 : decode cL_law 2290 = .ok (.aload_n 3, 1) := by decide +kernel
theorem dL_law_2291 : decode cL_law 2291 = .ok (.invokestatic 256, 3) := by decide +kernel
theorem dL_law_2294 : decode cL_law 2294 = .ok (.istore 5, 2) := by decide +kernel
theorem dL_law_2296 : decode cL_law 2296 = .ok (.aload_n 2, 1) := by decide +kernel
theorem dL_law_2297 : decode cL_law 2297 = .ok (.aload_n 0, 1) := by decide +kernel
theorem dL_law_2298 : decode cL_law 2298 = .ok (.iload 4, 2) := by decide +kernel
theorem dL_law_2300 : decode cL_law 2300 = .ok (.iconst 1, 1) := by decide +kernel
theorem dL_law_2301 : decode cL_law 2301 = .ok (.iadd, 1) := by decide +kernel
theorem dL_law_2302 : decode cL_law 2302 = .ok (.iaload, 1) := by decide +kernel
theorem dL_law_2303 : decode cL_law 2303 = .ok (.aload_n 0, 1) := by decide +kernel
theorem dL_law_2304 : decode cL_law 2304 = .ok (.iload 4, 2) := by decide +kernel
theorem dL_law_2306 : decode cL_law 2306 = .ok (.iconst 2, 1) := by decide +kernel
theorem dL_law_2307 : decode cL_law 2307 = .ok (.iadd, 1) := by decide +kernel
theorem dL_law_2308 : decode cL_law 2308 = .ok (.iaload, 1) := by decide +kernel
theorem dL_law_2309 : decode cL_law 2309 = .ok (.invokevirtual 258, 3) := by decide +kernel
theorem dL_law_2312 : decode cL_law 2312 = .ok (.istore 6, 2) := by decide +kernel
theorem dL_law_2314 : decode cL_law 2314 = .ok (.aload_n 2, 1) := by decide +kernel
theorem dL_law_2315 : decode cL_law 2315 = .ok (.invokevirtual 145, 3) := by decide +kernel
theorem dL_law_2318 : decode cL_law 2318 = .ok (.iload 5, 2) := by decide +kernel
theorem dL_law_2320 : decode cL_law 2320 = .ok (.if_icmp .eq 5, 3) := by decide +kernel
theorem dL_law_2323 : decode cL_law 2323 = .ok (.iconst 0, 1) := by decide +kernel
theorem dL_law_2324 : decode cL_law 2324 = .ok (.ireturn, 1) := by decide +kernel
theorem dL_law_2325 : decode cL_law 2325 = .ok (.iload 5, 2) := by decide +kernel
theorem dL_law_2327 : decode cL_law 2327 = .ok (.ifCond .ne 15, 3) := by decide +kernel
theorem dL_law_2330 : decode cL_law 2330 = .ok (.aload_n 3, 1) := by decide +kernel
theorem dL_law_2331 : decode cL_law 2331 = .ok (.iconst 0, 1) := by decide +kernel
theorem dL_law_2332 : decode cL_law 2332 = .ok (.laload, 1) := by decide +kernel
theorem dL_law_2333 : decode cL_law 2333 = .ok (.iload 6, 2) := by decide +kernel
theorem dL_law_2335 : decode cL_law 2335 = .ok (.i2l, 1) := by decide +kernel
theorem dL_law_2336 : decode cL_law 2336 = .ok (.lcmp, 1) := by decide +kernel
theorem dL_law_2337 : decode cL_law 2337 = .ok (.ifCond .eq 5, 3) := by decide +kernel
theorem dL_law_2340 : decode cL_law 2340 = .ok (.iconst 0, 1) := by decide +kernel
theorem dL_law_2341 : decode cL_law 2341 = .ok (.ireturn, 1) := by decide +kernel
theorem dL_law_2342 : decode cL_law 2342 = .ok (.goto 407, 3) := by decide +kernel
theorem dL_law_2345 : decode cL_law 2345 = .ok (.aload_n 1, 1) := by decide +kernel
theorem dL_law_2346 : decode cL_law 2346 = .ok (.aload_n 0, 1) := by decide +kernel
theorem dL_law_2347 : decode cL_law 2347 = .ok (.iload 4, 2) := by decide +kernel
theorem dL_law_2349 : decode cL_law 2349 = .ok (.iconst 1, 1) := by decide +kernel
theorem dL_law_2350 : decode cL_law 2350 = .ok (.iadd, 1) := by decide +kernel
theorem dL_law_2351 : decode cL_law 2351 = .ok (.iaload, 1) := by decide +kernel
theorem dL_law_2352 : decode cL_law 2352 = .ok (.aload_n 0, 1) := by decide +kernel
theorem dL_law_2353 : decode cL_law 2353 = .ok (.iload 4, 2) := by decide +kernel
theorem dL_law_2355 : decode cL_law 2355 = .ok (.iconst 2, 1) := by decide +kernel
theorem dL_law_2356 : decode cL_law 2356 = .ok (.iadd, 1) := by decide +kernel
theorem dL_law_2357 : decode cL_law 2357 = .ok (.iaload, 1) := by decide +kernel
theorem dL_law_2358 : decode cL_law 2358 = .ok (.aload_n 3, 1) := by decide +kernel
theorem dL_law_2359 : decode cL_law 2359 = .ok (.invokestatic 259, 3) := by decide +kernel
theorem dL_law_2362 : decode cL_law 2362 = .ok (.istore 5, 2) := by decide +kernel
theorem dL_law_2364 : decode cL_law 2364 = .ok (.aload_n 2, 1) := by decide +kernel
theorem dL_law_2365 : decode cL_law 2365 = .ok (.aload_n 0, 1) := by decide +kernel
theorem dL_law_2366 : decode cL_law 2366 = .ok (.iload 4, 2) := by decide +kernel
theorem dL_law_2368 : decode cL_law 2368 = .ok (.iconst 1, 1) := by decide +kernel
theorem dL_law_2369 : decode cL_law 2369 = .ok (.iadd, 1) := by decide +kernel
theorem dL_law_2370 : decode cL_law 2370 = .ok (.iaload, 1) := by decide +kernel
theorem dL_law_2371 : decode cL_law 2371 = .ok (.aload_n 0, 1) := by decide +kernel
theorem dL_law_2372 : decode cL_law 2372 = .ok (.iload 4, 2) := by decide +kernel
theorem dL_law_2374 : decode cL_law 2374 = .ok (.iconst 2, 1) := by decide +kernel
theorem dL_law_2375 : decode cL_law 2375 = .ok (.iadd, 1) := by decide +kernel
theorem dL_law_2376 : decode cL_law 2376 = .ok (.iaload, 1) := by decide +kernel
theorem dL_law_2377 : decode cL_law 2377 = .ok (.invokevirtual 261, 3) := by decide +kernel
theorem dL_law_2380 : decode cL_law 2380 = .ok (.istore 6, 2) := by decide +kernel
theorem dL_law_2382 : decode cL_law 2382 = .ok (.aload_n 2, 1) := by decide +kernel
theorem dL_law_2383 : decode cL_law 2383 = .ok (.invokevirtual 145, 3) := by decide +kernel
theorem dL_law_2386 : decode cL_law 2386 = .ok (.iload 5, 2) := by decide +kernel
theorem dL_law_2388 : decode cL_law 2388 = .ok (.if_icmp .eq 5, 3) := by decide +kernel
theorem dL_law_2391 : decode cL_law 2391 = .ok (.iconst 0, 1) := by decide +kernel
theorem dL_law_2392 : decode cL_law 2392 = .ok (.ireturn, 1) := by decide +kernel
theorem dL_law_2393 : decode cL_law 2393 = .ok (.iload 5, 2) := by decide +kernel
theorem dL_law_2395 : decode cL_law 2395 = .ok (.ifCond .ne 15, 3) := by decide +kernel
theorem dL_law_2398 : decode cL_law 2398 = .ok (.aload_n 3, 1) := by decide +kernel
theorem dL_law_2399 : decode cL_law 2399 = .ok (.iconst 0, 1) := by decide +kernel
theorem dL_law_2400 : decode cL_law 2400 = .ok (.laload, 1) := by decide +kernel
theorem dL_law_2401 : decode cL_law 2401 = .ok (.iload 6, 2) := by decide +kernel
theorem dL_law_2403 : decode cL_law 2403 = .ok (.i2l, 1) := by decide +kernel
theorem dL_law_2404 : decode cL_law 2404 = .ok (.lcmp, 1) := by decide +kernel
theorem dL_law_2405 : decode cL_law 2405 = .ok (.ifCond .eq 5, 3) := by decide +kernel
theorem dL_law_2408 : decode cL_law 2408 = .ok (.iconst 0, 1) := by decide +kernel
theorem dL_law_2409 : decode cL_law 2409 = .ok (.ireturn, 1) := by decide +kernel
theorem dL_law_2410 : decode cL_law 2410 = .ok (.goto 339, 3) := by decide +kernel
theorem dL_law_2413 : decode cL_law 2413 = .ok (.aload_n 1, 1) := by decide +kernel
theorem dL_law_2414 : decode cL_law 2414 = .ok (.aload_n 0, 1) := by decide +kernel
theorem dL_law_2415 : decode cL_law 2415 = .ok (.iload 4, 2) := by decide +kernel
theorem dL_law_2417 : decode cL_law 2417 = .ok (.iconst 1, 1) := by decide +kernel
theorem dL_law_2418 : decode cL_law 2418 = .ok (.iadd, 1) := by decide +kernel
theorem dL_law_2419 : decode cL_law 2419 = .ok (.iaload, 1) := by decide +kernel
theorem dL_law_2420 : decode cL_law 2420 = .ok (.aload_n 0, 1) := by decide +kernel
theorem dL_law_2421 : decode cL_law 2421 = .ok (.iload 4, 2) := by decide +kernel
theorem dL_law_2423 : decode cL_law 2423 = .ok (.iconst 2, 1) := by decide +kernel
theorem dL_law_2424 : decode cL_law 2424 = .ok (.iadd, 1) := by decide +kernel
theorem dL_law_2425 : decode cL_law 2425 = .ok (.iaload, 1) := by decide +kernel
theorem dL_law_2426 : decode cL_law 2426 = .ok (.aload_n 0, 1) := by decide +kernel
theorem dL_law_2427 : decode cL_law 2427 = .ok (.iload 4, 2) := by decide +kernel
theorem dL_law_2429 : decode cL_law 2429 = .ok (.iconst 3, 1) := by decide +kernel
theorem dL_law_2430 : decode cL_law 2430 = .ok (.iadd, 1) := by decide +kernel
theorem dL_law_2431 : decode cL_law 2431 = .ok (.iaload, 1) := by decide +kernel
theorem dL_law_2432 : decode cL_law 2432 = .ok (.invokestatic 262, 3) := by decide +kernel
theorem dL_law_2435 : decode cL_law 2435 = .ok (.istore 5, 2) := by decide +kernel
theorem dL_law_2437 : decode cL_law 2437 = .ok (.aload_n 2, 1) := by decide +kernel
theorem dL_law_2438 : decode cL_law 2438 = .ok (.aload_n 0, 1) := by decide +kernel
theorem dL_law_2439 : decode cL_law 2439 = .ok (.iload 4, 2) := by decide +kernel
theorem dL_law_2441 : decode cL_law 2441 = .ok (.iconst 1, 1) := by decide +kernel
theorem dL_law_2442 : decode cL_law 2442 = .ok (.iadd, 1) := by decide +kernel
theorem dL_law_2443 : decode cL_law 2443 = .ok (.iaload, 1) := by decide +kernel
theorem dL_law_2444 : decode cL_law 2444 = .ok (.aload_n 0, 1) := by decide +kernel
theorem dL_law_2445 : decode cL_law 2445 = .ok (.iload 4, 2) := by decide +kernel
theorem dL_law_2447 : decode cL_law 2447 = .ok (.iconst 2, 1) := by decide +kernel
theorem dL_law_2448 : decode cL_law 2448 = .ok (.iadd, 1) := by decide +kernel
theorem dL_law_2449 : decode cL_law 2449 = .ok (.iaload, 1) := by decide +kernel
theorem dL_law_2450 : decode cL_law 2450 = .ok (.aload_n 0, 1) := by decide +kernel
theorem dL_law_2451 : decode cL_law 2451 = .ok (.iload 4, 2) := by decide +kernel
theorem dL_law_2453 : decode cL_law 2453 = .ok (.iconst 3, 1) := by decide +kernel
theorem dL_law_2454 : decode cL_law 2454 = .ok (.iadd, 1) := by decide +kernel
theorem dL_law_2455 : decode cL_law 2455 = .ok (.iaload, 1) := by decide +kernel
theorem dL_law_2456 : decode cL_law 2456 = .ok (.invokevirtual 265, 3) := by decide +kernel
theorem dL_law_2459 : decode cL_law 2459 = .ok (.aload_n 2, 1) := by decide +kernel
theorem dL_law_2460 : decode cL_law 2460 = .ok (.invokevirtual 145, 3) := by decide +kernel
theorem dL_law_2463 : decode cL_law 2463 = .ok (.iload 5, 2) := by decide +kernel
theorem dL_law_2465 : decode cL_law 2465 = .ok (.if_icmp .eq 5, 3) := by decide +kernel
theorem dL_law_2468 : decode cL_law 2468 = .ok (.iconst 0, 1) := by decide +kernel
theorem dL_law_2469 : decode cL_law 2469 = .ok (.ireturn, 1) := by decide +kernel
theorem dL_law_2470 : decode cL_law 2470 = .ok (.goto 279, 3) := by decide +kernel
theorem dL_law_2473 : decode cL_law 2473 = .ok (.aload_n 1, 1) := by decide +kernel
theorem dL_law_2474 : decode cL_law 2474 = .ok (.aload_n 0, 1) := by decide +kernel
theorem dL_law_2475 : decode cL_law 2475 = .ok (.iload 4, 2) := by decide +kernel
theorem dL_law_2477 : decode cL_law 2477 = .ok (.iconst 1, 1) := by decide +kernel
theorem dL_law_2478 : decode cL_law 2478 = .ok (.iadd, 1) := by decide +kernel
theorem dL_law_2479 : decode cL_law 2479 = .ok (.iaload, 1) := by decide +kernel
theorem dL_law_2480 : decode cL_law 2480 = .ok (.aload_n 0, 1) := by decide +kernel
theorem dL_law_2481 : decode cL_law 2481 = .ok (.iload 4, 2) := by decide +kernel
theorem dL_law_2483 : decode cL_law 2483 = .ok (.iconst 2, 1) := by decide +kernel
theorem dL_law_2484 : decode cL_law 2484 = .ok (.iadd, 1) := by decide +kernel
theorem dL_law_2485 : decode cL_law 2485 = .ok (.iaload, 1) := by decide +kernel
theorem dL_law_2486 : decode cL_law 2486 = .ok (.aload_n 0, 1) := by decide +kernel
theorem dL_law_2487 : decode cL_law 2487 = .ok (.iload 4, 2) := by decide +kernel
theorem dL_law_2489 : decode cL_law 2489 = .ok (.iconst 3, 1) := by decide +kernel
theorem dL_law_2490 : decode cL_law 2490 = .ok (.iadd, 1) := by decide +kernel
theorem dL_law_2491 : decode cL_law 2491 = .ok (.iaload, 1) := by decide +kernel
theorem dL_law_2492 : decode cL_law 2492 = .ok (.i2l, 1) := by decide +kernel
theorem dL_law_2493 : decode cL_law 2493 = .ok (.bipush 32, 2) := by decide +kernel
theorem dL_law_2495 : decode cL_law 2495 = .ok (.lshl, 1) := by decide +kernel
theorem dL_law_2496 : decode cL_law 2496 = .ok (.aload_n 0, 1) := by decide +kernel
theorem dL_law_2497 : decode cL_law 2497 = .ok (.iload 4, 2) := by decide +kernel
theorem dL_law_2499 : decode cL_law 2499 = .ok (.iconst 4, 1) := by decide +kernel
theorem dL_law_2500 : decode cL_law 2500 = .ok (.iadd, 1) := by decide +kernel
theorem dL_law_2501 : decode cL_law 2501 = .ok (.iaload, 1) := by decide +kernel
theorem dL_law_2502 : decode cL_law 2502 = .ok (.i2l, 1) := by decide +kernel
theorem dL_law_2503 : decode cL_law 2503 = .ok (.ldc2_w 266, 3) := by decide +kernel
theorem dL_law_2506 : decode cL_law 2506 = .ok (.land, 1) := by decide +kernel
theorem dL_law_2507 : decode cL_law 2507 = .ok (.lor, 1) := by decide +kernel
theorem dL_law_2508 : decode cL_law 2508 = .ok (.aload_n 3, 1) := by decide +kernel
theorem dL_law_2509 : decode cL_law 2509 = .ok (.invokestatic 268, 3) := by decide +kernel
theorem dL_law_2512 : decode cL_law 2512 = .ok (.istore 5, 2) := by decide +kernel
theorem dL_law_2514 : decode cL_law 2514 = .ok (.aload_n 2, 1) := by decide +kernel
theorem dL_law_2515 : decode cL_law 2515 = .ok (.aload_n 0, 1) := by decide +kernel
theorem dL_law_2516 : decode cL_law 2516 = .ok (.iload 4, 2) := by decide +kernel
theorem dL_law_2518 : decode cL_law 2518 = .ok (.iconst 1, 1) := by decide +kernel
theorem dL_law_2519 : decode cL_law 2519 = .ok (.iadd, 1) := by decide +kernel
theorem dL_law_2520 : decode cL_law 2520 = .ok (.iaload, 1) := by decide +kernel
theorem dL_law_2521 : decode cL_law 2521 = .ok (.aload_n 0, 1) := by decide +kernel
theorem dL_law_2522 : decode cL_law 2522 = .ok (.iload 4, 2) := by decide +kernel
theorem dL_law_2524 : decode cL_law 2524 = .ok (.iconst 2, 1) := by decide +kernel
theorem dL_law_2525 : decode cL_law 2525 = .ok (.iadd, 1) := by decide +kernel
theorem dL_law_2526 : decode cL_law 2526 = .ok (.iaload, 1) := by decide +kernel
theorem dL_law_2527 : decode cL_law 2527 = .ok (.aload_n 0, 1) := by decide +kernel
theorem dL_law_2528 : decode cL_law 2528 = .ok (.iload 4, 2) := by decide +kernel
theorem dL_law_2530 : decode cL_law 2530 = .ok (.iconst 3, 1) := by decide +kernel
theorem dL_law_2531 : decode cL_law 2531 = .ok (.iadd, 1) := by decide +kernel
theorem dL_law_2532 : decode cL_law 2532 = .ok (.iaload, 1) := by decide +kernel
theorem dL_law_2533 : decode cL_law 2533 = .ok (.i2l, 1) := by decide +kernel
theorem dL_law_2534 : decode cL_law 2534 = .ok (.bipush 32, 2) := by decide +kernel
theorem dL_law_2536 : decode cL_law 2536 = .ok (.lshl, 1) := by decide +kernel
theorem dL_law_2537 : decode cL_law 2537 = .ok (.aload_n 0, 1) := by decide +kernel
theorem dL_law_2538 : decode cL_law 2538 = .ok (.iload 4, 2) := by decide +kernel
theorem dL_law_2540 : decode cL_law 2540 = .ok (.iconst 4, 1) := by decide +kernel
theorem dL_law_2541 : decode cL_law 2541 = .ok (.iadd, 1) := by decide +kernel
theorem dL_law_2542 : decode cL_law 2542 = .ok (.iaload, 1) := by decide +kernel
theorem dL_law_2543 : decode cL_law 2543 = .ok (.i2l, 1) := by decide +kernel
theorem dL_law_2544 : decode cL_law 2544 = .ok (.ldc2_w 266, 3) := by decide +kernel
theorem dL_law_2547 : decode cL_law 2547 = .ok (.land, 1) := by decide +kernel
theorem dL_law_2548 : decode cL_law 2548 = .ok (.lor, 1) := by decide +kernel
theorem dL_law_2549 : decode cL_law 2549 = .ok (.invokevirtual 271, 3) := by decide +kernel
theorem dL_law_2552 : decode cL_law 2552 = .ok (.lstore 6, 2) := by decide +kernel
theorem dL_law_2554 : decode cL_law 2554 = .ok (.aload_n 2, 1) := by decide +kernel
theorem dL_law_2555 : decode cL_law 2555 = .ok (.invokevirtual 145, 3) := by decide +kernel
theorem dL_law_2558 : decode cL_law 2558 = .ok (.iload 5, 2) := by decide +kernel
theorem dL_law_2560 : decode cL_law 2560 = .ok (.if_icmp .eq 5, 3) := by decide +kernel
theorem dL_law_2563 : decode cL_law 2563 = .ok (.iconst 0, 1) := by decide +kernel
theorem dL_law_2564 : decode cL_law 2564 = .ok (.ireturn, 1) := by decide +kernel
theorem dL_law_2565 : decode cL_law 2565 = .ok (.iload 5, 2) := by decide +kernel
theorem dL_law_2567 : decode cL_law 2567 = .ok (.ifCond .ne 14, 3) := by decide +kernel
theorem dL_law_2570 : decode cL_law 2570 = .ok (.aload_n 3, 1) := by decide +kernel
theorem dL_law_2571 : decode cL_law 2571 = .ok (.iconst 0, 1) := by decide +kernel
theorem dL_law_2572 : decode cL_law 2572 = .ok (.laload, 1) := by decide +kernel
theorem dL_law_2573 : decode cL_law 2573 = .ok (.lload 6, 2) := by decide +kernel
theorem dL_law_2575 : decode cL_law 2575 = .ok (.lcmp, 1) := by decide +kernel
theorem dL_law_2576 : decode cL_law 2576 = .ok (.ifCond .eq 5, 3) := by decide +kernel
theorem dL_law_2579 : decode cL_law 2579 = .ok (.iconst 0, 1) := by decide +kernel
theorem dL_law_2580 : decode cL_law 2580 = .ok (.ireturn, 1) := by decide +kernel
theorem dL_law_2581 : decode cL_law 2581 = .ok (.goto 168, 3) := by decide +kernel
theorem dL_law_2584 : decode cL_law 2584 = .ok (.aload_n 1, 1) := by decide +kernel
theorem dL_law_2585 : decode cL_law 2585 = .ok (.aload_n 0, 1) := by decide +kernel
theorem dL_law_2586 : decode cL_law 2586 = .ok (.iload 4, 2) := by decide +kernel
theorem dL_law_2588 : decode cL_law 2588 = .ok (.iconst 1, 1) := by decide +kernel
theorem dL_law_2589 : decode cL_law 2589 = .ok (.iadd, 1) := by decide +kernel
theorem dL_law_2590 : decode cL_law 2590 = .ok (.iaload, 1) := by decide +kernel
theorem dL_law_2591 : decode cL_law 2591 = .ok (.aload_n 0, 1) := by decide +kernel
theorem dL_law_2592 : decode cL_law 2592 = .ok (.iload 4, 2) := by decide +kernel
theorem dL_law_2594 : decode cL_law 2594 = .ok (.iconst 2, 1) := by decide +kernel
theorem dL_law_2595 : decode cL_law 2595 = .ok (.iadd, 1) := by decide +kernel
theorem dL_law_2596 : decode cL_law 2596 = .ok (.iaload, 1) := by decide +kernel
theorem dL_law_2597 : decode cL_law 2597 = .ok (.aload_n 3, 1) := by decide +kernel
theorem dL_law_2598 : decode cL_law 2598 = .ok (.invokestatic 272, 3) := by decide +kernel
theorem dL_law_2601 : decode cL_law 2601 = .ok (.istore 5, 2) := by decide +kernel
theorem dL_law_2603 : decode cL_law 2603 = .ok (.aload_n 2, 1) := by decide +kernel
theorem dL_law_2604 : decode cL_law 2604 = .ok (.aload_n 0, 1) := by decide +kernel
theorem dL_law_2605 : decode cL_law 2605 = .ok (.iload 4, 2) := by decide +kernel
theorem dL_law_2607 : decode cL_law 2607 = .ok (.iconst 1, 1) := by decide +kernel
theorem dL_law_2608 : decode cL_law 2608 = .ok (.iadd, 1) := by decide +kernel
theorem dL_law_2609 : decode cL_law 2609 = .ok (.iaload, 1) := by decide +kernel
theorem dL_law_2610 : decode cL_law 2610 = .ok (.aload_n 0, 1) := by decide +kernel
theorem dL_law_2611 : decode cL_law 2611 = .ok (.iload 4, 2) := by decide +kernel
theorem dL_law_2613 : decode cL_law 2613 = .ok (.iconst 2, 1) := by decide +kernel
theorem dL_law_2614 : decode cL_law 2614 = .ok (.iadd, 1) := by decide +kernel
theorem dL_law_2615 : decode cL_law 2615 = .ok (.iaload, 1) := by decide +kernel
theorem dL_law_2616 : decode cL_law 2616 = .ok (.invokevirtual 274, 3) := by decide +kernel
theorem dL_law_2619 : decode cL_law 2619 = .ok (.istore 6, 2) := by decide +kernel
theorem dL_law_2621 : decode cL_law 2621 = .ok (.aload_n 2, 1) := by decide +kernel
theorem dL_law_2622 : decode cL_law 2622 = .ok (.invokevirtual 145, 3) := by decide +kernel
theorem dL_law_2625 : decode cL_law 2625 = .ok (.iload 5, 2) := by decide +kernel
theorem dL_law_2627 : decode cL_law 2627 = .ok (.if_icmp .eq 5, 3) := by decide +kernel
theorem dL_law_2630 : decode cL_law 2630 = .ok (.iconst 0, 1) := by decide +kernel
theorem dL_law_2631 : decode cL_law 2631 = .ok (.ireturn, 1) := by decide +kernel
theorem dL_law_2632 : decode cL_law 2632 = .ok (.iload 5, 2) := by decide +kernel
theorem dL_law_2634 : decode cL_law 2634 = .ok (.ifCond .ne 15, 3) := by decide +kernel
theorem dL_law_2637 : decode cL_law 2637 = .ok (.aload_n 3, 1) := by decide +kernel
theorem dL_law_2638 : decode cL_law 2638 = .ok (.iconst 0, 1) := by decide +kernel
theorem dL_law_2639 : decode cL_law 2639 = .ok (.laload, 1) := by decide +kernel
theorem dL_law_2640 : decode cL_law 2640 = .ok (.iload 6, 2) := by decide +kernel
theorem dL_law_2642 : decode cL_law 2642 = .ok (.i2l, 1) := by decide +kernel
theorem dL_law_2643 : decode cL_law 2643 = .ok (.lcmp, 1) := by decide +kernel
theorem dL_law_2644 : decode cL_law 2644 = .ok (.ifCond .eq 5, 3) := by decide +kernel
theorem dL_law_2647 : decode cL_law 2647 = .ok (.iconst 0, 1) := by decide +kernel
theorem dL_law_2648 : decode cL_law 2648 = .ok (.ireturn, 1) := by decide +kernel
theorem dL_law_2649 : decode cL_law 2649 = .ok (.goto 100, 3) := by decide +kernel
theorem dL_law_2652 : decode cL_law 2652 = .ok (.aload_n 1, 1) := by decide +kernel
theorem dL_law_2653 : decode cL_law 2653 = .ok (.aload_n 0, 1) := by decide +kernel
theorem dL_law_2654 : decode cL_law 2654 = .ok (.iload 4, 2) := by decide +kernel
theorem dL_law_2656 : decode cL_law 2656 = .ok (.iconst 1, 1) := by decide +kernel
theorem dL_law_2657 : decode cL_law 2657 = .ok (.iadd, 1) := by decide +kernel
theorem dL_law_2658 : decode cL_law 2658 = .ok (.iaload, 1) := by decide +kernel
theorem dL_law_2659 : decode cL_law 2659 = .ok (.invokestatic 275, 3) := by decide +kernel
theorem dL_law_2662 : decode cL_law 2662 = .ok (.istore 5, 2) := by decide +kernel
theorem dL_law_2664 : decode cL_law 2664 = .ok (.aload_n 2, 1) := by decide +kernel
theorem dL_law_2665 : decode cL_law 2665 = .ok (.aload_n 0, 1) := by decide +kernel
theorem dL_law_2666 : decode cL_law 2666 = .ok (.iload 4, 2) := by decide +kernel
theorem dL_law_2668 : decode cL_law 2668 = .ok (.iconst 1, 1) := by decide +kernel
theorem dL_law_2669 : decode cL_law 2669 = .ok (.iadd, 1) := by decide +kernel
theorem dL_law_2670 : decode cL_law 2670 = .ok (.iaload, 1) := by decide +kernel
theorem dL_law_2671 : decode cL_law 2671 = .ok (.invokevirtual 278, 3) := by decide +kernel
theorem dL_law_2674 : decode cL_law 2674 = .ok (.aload_n 2, 1) := by decide +kernel
theorem dL_law_2675 : decode cL_law 2675 = .ok (.invokevirtual 145, 3) := by decide +kernel
theorem dL_law_2678 : decode cL_law 2678 = .ok (.iload 5, 2) := by decide +kernel
theorem dL_law_2680 : decode cL_law 2680 = .ok (.if_icmp .eq 5, 3) := by decide +kernel
theorem dL_law_2683 : decode cL_law 2683 = .ok (.iconst 0, 1) := by decide +kernel
theorem dL_law_2684 : decode cL_law 2684 = .ok (.ireturn, 1) := by decide +kernel
theorem dL_law_2685 : decode cL_law 2685 = .ok (.goto 64, 3) := by decide +kernel
theorem dL_law_2688 : decode cL_law 2688 = .ok (.aload_n 1, 1) := by decide +kernel
theorem dL_law_2689 : decode cL_law 2689 = .ok (.aload_n 0, 1) := by decide +kernel
theorem dL_law_2690 : decode cL_law 2690 = .ok (.iload 4, 2) := by decide +kernel
theorem dL_law_2692 : decode cL_law 2692 = .ok (.iconst 1, 1) := by decide +kernel
theorem dL_law_2693 : decode cL_law 2693 = .ok (.iadd, 1) := by decide +kernel
theorem dL_law_2694 : decode cL_law 2694 = .ok (.iaload, 1) := by decide +kernel
theorem dL_law_2695 : decode cL_law 2695 = .ok (.invokestatic 279, 3) := by decide +kernel
theorem dL_law_2698 : decode cL_law 2698 = .ok (.istore 5, 2) := by decide +kernel
theorem dL_law_2700 : decode cL_law 2700 = .ok (.aload_n 2, 1) := by decide +kernel
theorem dL_law_2701 : decode cL_law 2701 = .ok (.aload_n 0, 1) := by decide +kernel
theorem dL_law_2702 : decode cL_law 2702 = .ok (.iload 4, 2) := by decide +kernel
theorem dL_law_2704 : decode cL_law 2704 = .ok (.iconst 1, 1) := by decide +kernel
theorem dL_law_2705 : decode cL_law 2705 = .ok (.iadd, 1) := by decide +kernel
theorem dL_law_2706 : decode cL_law 2706 = .ok (.iaload, 1) := by decide +kernel
theorem dL_law_2707 : decode cL_law 2707 = .ok (.invokevirtual 281, 3) := by decide +kernel
theorem dL_law_2710 : decode cL_law 2710 = .ok (.aload_n 2, 1) := by decide +kernel
theorem dL_law_2711 : decode cL_law 2711 = .ok (.invokevirtual 145, 3) := by decide +kernel
theorem dL_law_2714 : decode cL_law 2714 = .ok (.iload 5, 2) := by decide +kernel
theorem dL_law_2716 : decode cL_law 2716 = .ok (.if_icmp .eq 5, 3) := by decide +kernel
theorem dL_law_2719 : decode cL_law 2719 = .ok (.iconst 0, 1) := by decide +kernel
theorem dL_law_2720 : decode cL_law 2720 = .ok (.ireturn, 1) := by decide +kernel
theorem dL_law_2721 : decode cL_law 2721 = .ok (.goto 28, 3) := by decide +kernel
theorem dL_law_2724 : decode cL_law 2724 = .ok (.aload_n 1, 1) := by decide +kernel
theorem dL_law_2725 : decode cL_law 2725 = .ok (.aload_n 0, 1) := by decide +kernel
theorem dL_law_2726 : decode cL_law 2726 = .ok (.iload 4, 2) := by decide +kernel
theorem dL_law_2728 : decode cL_law 2728 = .ok (.iconst 1, 1) := by decide +kernel
theorem dL_law_2729 : decode cL_law 2729 = .ok (.iadd, 1) := by decide +kernel
theorem dL_law_2730 : decode cL_law 2730 = .ok (.iaload, 1) := by decide +kernel
theorem dL_law_2731 : decode cL_law 2731 = .ok (.invokevirtual 282, 3) := by decide +kernel
theorem dL_law_2734 : decode cL_law 2734 = .ok (.aload_n 2, 1) := by decide +kernel
theorem dL_law_2735 : decode cL_law 2735 = .ok (.aload_n 0, 1) := by decide +kernel
theorem dL_law_2736 : decode cL_law 2736 = .ok (.iload 4, 2) := by decide +kernel
theorem dL_law_2738 : decode cL_law 2738 = .ok (.iconst 1, 1) := by decide +kernel
theorem dL_law_2739 : decode cL_law 2739 = .ok (.iadd, 1) := by decide +kernel
theorem dL_law_2740 : decode cL_law 2740 = .ok (.iaload, 1) := by decide +kernel
theorem dL_law_2741 : decode cL_law 2741 = .ok (.invokevirtual 285, 3) := by decide +kernel
theorem dL_law_2744 : decode cL_law 2744 = .ok (.if_icmp .eq 5, 3) := by decide +kernel
theorem dL_law_2747 : decode cL_law 2747 = .ok (.iconst 0, 1) := by decide +kernel
theorem dL_law_2748 : decode cL_law 2748 = .ok (.ireturn, 1) := by decide +kernel
theorem dL_law_2749 : decode cL_law 2749 = .ok (.iinc 4 6, 3) := by decide +kernel
theorem dL_law_2752 : decode cL_law 2752 = .ok (.goto (-2729), 3) := by decide +kernel
theorem dL_law_2755 : decode cL_law 2755 = .ok (.iconst 1, 1) := by decide +kernel
theorem dL_law_2756 : decode cL_law 2756 = .ok (.ireturn, 1) := by decide +kernel
