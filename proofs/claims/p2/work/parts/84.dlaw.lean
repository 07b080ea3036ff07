theorem dW_1996 : decode code 1996 = .ok (.iconst 1, 1) := by decide +kernel
theorem dW_1997 : decode code 1997 = .ok (.iadd, 1) := by decide +kernel
theorem dW_1998 : decode code 1998 = .ok (.iaload, 1) := by decide +kernel
theorem dW_1999 : decode code 1999 = .ok (.aload_n 0, 1) := by decide +kernel
theorem dW_2000 : decode code 2000 = .ok (.iload 4, 2) := by decide +kernel
theorem dW_2002 : decode code 2002 = .ok (.iconst 2, 1) := by decide +kernel
theorem dW_2003 : decode code 2003 = .ok (.iadd, 1) := by decide +kernel
theorem dW_2004 : decode code 2004 = .ok (.iaload, 1) := by decide +kernel
theorem dW_2005 : decode code 2005 = .ok (.aload_n 3, 1) := by decide +kernel
theorem dW_2006 : decode code 2006 = .ok (.invokestatic 307, 3) := by decide +kernel
theorem dW_2009 : decode code 2009 = .ok (.istore 5, 2) := by decide +kernel
theorem dW_2011 : decode code 2011 = .ok (.aload_n 2, 1) := by decide +kernel
theorem dW_2012 : decode code 2012 = .ok (.aload_n 0, 1) := by decide +kernel
theorem dW_2013 : decode code 2013 = .ok (.iload 4, 2) := by decide +kernel
theorem dW_2015 : decode code 2015 = .ok (.iconst 1, 1) := by decide +kernel
theorem dW_2016 : decode code 2016 = .ok (.iadd, 1) := by decide +kernel
theorem dW_2017 : decode code 2017 = .ok (.iaload, 1) := by decide +kernel
theorem dW_2018 : decode code 2018 = .ok (.aload_n 0, 1) := by decide +kernel
theorem dW_2019 : decode code 2019 = .ok (.iload 4, 2) := by decide +kernel
theorem dW_2021 : decode code 2021 = .ok (.iconst 2, 1) := by decide +kernel
theorem dW_2022 : decode code 2022 = .ok (.iadd, 1) := by decide +kernel
theorem dW_2023 : decode code 2023 = .ok (.iaload, 1) := by decide +kernel
theorem dW_2024 : decode code 2024 = .ok (.invokevirtual 309, 3) := by decide +kernel
theorem dW_2027 : decode code 2027 = .ok (.istore 6, 2) := by decide +kernel
theorem dW_2029 : decode code 2029 = .ok (.goto 327, 3) := by decide +kernel
theorem dW_2032 : decode code 2032 = .ok (.aload_n 1, 1) := by decide +kernel
theorem dW_2033 : decode code 2033 = .ok (.aload_n 0, 1) := by decide +kernel
theorem dW_2034 : decode code 2034 = .ok (.iload 4, 2) := by decide +kernel
theorem dW_2036 : decode code 2036 = .ok (.iconst 1, 1) := by decide +kernel
theorem dW_2037 : decode code 2037 = .ok (.iadd, 1) := by decide +kernel
theorem dW_2038 : decode code 2038 = .ok (.iaload, 1) := by decide +kernel
theorem dW_2039 : decode code 2039 = .ok (.aload_n 0, 1) := by decide +kernel
theorem dW_2040 : decode code 2040 = .ok (.iload 4, 2) := by decide +kernel
theorem dW_2042 : decode code 2042 = .ok (.iconst 2, 1) := by decide +kernel
theorem dW_2043 : decode code 2043 = .ok (.iadd, 1) := by decide +kernel
theorem dW_2044 : decode code 2044 = .ok (.iaload, 1) := by decide +kernel
theorem dW_2045 : decode code 2045 = .ok (.aload_n 3, 1) := by decide +kernel
theorem dW_2046 : decode code 2046 = .ok (.invokestatic 310, 3) := by decide +kernel
theorem dW_2049 : decode code 2049 = .ok (.istore 5, 2) := by decide +kernel
theorem dW_2051 : decode code 2051 = .ok (.aload_n 2, 1) := by decide +kernel
theorem dW_2052 : decode code 2052 = .ok (.aload_n 0, 1) := by decide +kernel
theorem dW_2053 : decode code 2053 = .ok (.iload 4, 2) := by decide +kernel
theorem dW_2055 : decode code 2055 = .ok (.iconst 1, 1) := by decide +kernel
theorem dW_2056 : decode code 2056 = .ok (.iadd, 1) := by decide +kernel
theorem dW_2057 : decode code 2057 = .ok (.iaload, 1) := by decide +kernel
theorem dW_2058 : decode code 2058 = .ok (.aload_n 0, 1) := by decide +kernel
theorem dW_2059 : decode code 2059 = .ok (.iload 4, 2) := by decide +kernel
theorem dW_2061 : decode code 2061 = .ok (.iconst 2, 1) := by decide +kernel
theorem dW_2062 : decode code 2062 = .ok (.iadd, 1) := by decide +kernel
theorem dW_2063 : decode code 2063 = .ok (.iaload, 1) := by decide +kernel
theorem dW_2064 : decode code 2064 = .ok (.invokevirtual 312, 3) := by decide +kernel
theorem dW_2067 : decode code 2067 = .ok (.istore 6, 2) := by decide +kernel
theorem dW_2069 : decode code 2069 = .ok (.goto 287, 3) := by decide +kernel
theorem dW_2072 : decode code 2072 = .ok (.aload_n 1, 1) := by decide +kernel
theorem dW_2073 : decode code 2073 = .ok (.aload_n 0, 1) := by decide +kernel
theorem dW_2074 : decode code 2074 = .ok (.iload 4, 2) := by decide +kernel
theorem dW_2076 : decode code 2076 = .ok (.iconst 1, 1) := by decide +kernel
theorem dW_2077 : decode code 2077 = .ok (.iadd, 1) := by decide +kernel
theorem dW_2078 : decode code 2078 = .ok (.iaload, 1) := by decide +kernel
theorem dW_2079 : decode code 2079 = .ok (.ifCond .eq 7, 3) := by decide +kernel
theorem dW_2082 : decode code 2082 = .ok (.iconst 1, 1) := by decide +kernel
theorem dW_2083 : decode code 2083 = .ok (.goto 4, 3) := by decide +kernel
theorem dW_2086 : decode code 2086 = .ok (.iconst 0, 1) := by decide +kernel
theorem dW_2087 : decode code 2087 = .ok (.invokevirtual 313, 3) := by decide +kernel
theorem dW_2090 : decode code 2090 = .ok (.pop, 1) := by decide +kernel
theorem dW_2091 : decode code 2091 = .ok (.aload_n 2, 1) := by decide +kernel
theorem dW_2092 : decode code 2092 = .ok (.aload_n 0, 1) := by decide +kernel
theorem dW_2093 : decode code 2093 = .ok (.iload 4, 2) := by decide +kernel
theorem dW_2095 : decode code 2095 = .ok (.iconst 1, 1) := by decide +kernel
theorem dW_2096 : decode code 2096 = .ok (.iadd, 1) := by decide +kernel
theorem dW_2097 : decode code 2097 = .ok (.iaload, 1) := by decide +kernel
theorem dW_2098 : decode code 2098 = .ok (.ifCond .eq 7, 3) := by decide +kernel
theorem dW_2101 : decode code 2101 = .ok (.iconst 1, 1) := by decide +kernel
theorem dW_2102 : decode code 2102 = .ok (.goto 4, 3) := by decide +kernel
theorem dW_2105 : decode code 2105 = .ok (.iconst 0, 1) := by decide +kernel
theorem dW_2106 : decode code 2106 = .ok (.invokevirtual 317, 3) := by decide +kernel
theorem dW_2109 : decode code 2109 = .ok (.pop, 1) := by decide +kernel
theorem dW_2110 : decode code 2110 = .ok (.goto 246, 3) := by decide +kernel
theorem dW_2113 : decode code 2113 = .ok (.aload_n 1, 1) := by decide +kernel
theorem dW_2114 : decode code 2114 = .ok (.aload_n 0, 1) := by decide +kernel
theorem dW_2115 : decode code 2115 = .ok (.iload 4, 2) := by decide +kernel
theorem dW_2117 : decode code 2117 = .ok (.iconst 1, 1) := by decide +kernel
theorem dW_2118 : decode code 2118 = .ok (.iadd, 1) := by decide +kernel
theorem dW_2119 : decode code 2119 = .ok (.iaload, 1) := by decide +kernel
theorem dW_2120 : decode code 2120 = .ok (.aload_n 0, 1) := by decide +kernel
theorem dW_2121 : decode code 2121 = .ok (.iload 4, 2) := by decide +kernel
theorem dW_2123 : decode code 2123 = .ok (.iconst 2, 1) := by decide +kernel
theorem dW_2124 : decode code 2124 = .ok (.iadd, 1) := by decide +kernel
theorem dW_2125 : decode code 2125 = .ok (.iaload, 1) := by decide +kernel
theorem dW_2126 : decode code 2126 = .ok (.ifCond .eq 7, 3) := by decide +kernel
theorem dW_2129 : decode code 2129 = .ok (.iconst 1, 1) := by decide +kernel
theorem dW_2130 : decode code 2130 = .ok (.goto 4, 3) := by decide +kernel
theorem dW_2133 : decode code 2133 = .ok (.iconst 0, 1) := by decide +kernel
theorem dW_2134 : decode code 2134 = .ok (.aload_n 3, 1) := by decide +kernel
theorem dW_2135 : decode code 2135 = .ok (.invokestatic 318, 3) := by decide +kernel
theorem dW_2138 : decode code 2138 = .ok (.istore 5, 2) := by decide +kernel
theorem dW_2140 : decode code 2140 = .ok (.aload_n 2, 1) := by decide +kernel
theorem dW_2141 : decode code 2141 = .ok (.aload_n 0, 1) := by decide +kernel
theorem dW_2142 : decode code 2142 = .ok (.iload 4, 2) := by decide +kernel
theorem dW_2144 : decode code 2144 = .ok (.iconst 1, 1) := by decide +kernel
theorem dW_2145 : decode code 2145 = .ok (.iadd, 1) := by decide +kernel
theorem dW_2146 : decode code 2146 = .ok (.iaload, 1) := by decide +kernel
theorem dW_2147 : decode code 2147 = .ok (.aload_n 0, 1) := by decide +kernel
theorem dW_2148 : decode code 2148 = .ok (.iload 4, 2) := by decide +kernel
theorem dW_2150 : decode code 2150 = .ok (.iconst 2, 1) := by decide +kernel
theorem dW_2151 : decode code 2151 = .ok (.iadd, 1) := by decide +kernel
theorem dW_2152 : decode code 2152 = .ok (.iaload, 1) := by decide +kernel
theorem dW_2153 : decode code 2153 = .ok (.ifCond .eq 7, 3) := by decide +kernel
theorem dW_2156 : decode code 2156 = .ok (.iconst 1, 1) := by decide +kernel
theorem dW_2157 : decode code 2157 = .ok (.goto 4, 3) := by decide +kernel
theorem dW_2160 : decode code 2160 = .ok (.iconst 0, 1) := by decide +kernel
theorem dW_2161 : decode code 2161 = .ok (.invokevirtual 320, 3) := by decide +kernel
theorem dW_2164 : decode code 2164 = .ok (.astore 6, 2) := by decide +kernel
theorem dW_2166 : decode code 2166 = .ok (.goto 190, 3) := by decide +kernel
theorem dW_2169 : decode code 2169 = .ok (.aload_n 1, 1) := by decide +kernel
theorem dW_2170 : decode code 2170 = .ok (.aload_n 0, 1) := by decide +kernel
theorem dW_2171 : decode code 2171 = .ok (.iload 4, 2) := by decide +kernel
theorem dW_2173 : decode code 2173 = .ok (.iconst 1, 1) := by decide +kernel
theorem dW_2174 : decode code 2174 = .ok (.iadd, 1) := by decide +kernel
theorem dW_2175 : decode code 2175 = .ok (.iaload, 1) := by decide +kernel
theorem dW_2176 : decode code 2176 = .ok (.aload_n 3, 1) := by decide +kernel
theorem dW_2177 : decode code 2177 = .ok (.invokestatic 321, 3) := by decide +kernel
theorem dW_2180 : decode code 2180 = .ok (.istore 5, 2) := by decide +kernel
theorem dW_2182 : decode code 2182 = .ok (.aload_n 2, 1) := by decide +kernel
theorem dW_2183 : decode code 2183 = .ok (.aload_n 0, 1) := by decide +kernel
theorem dW_2184 : decode code 2184 = .ok (.iload 4, 2) := by decide +kernel
theorem dW_2186 : decode code 2186 = .ok (.iconst 1, 1) := by decide +kernel
theorem dW_2187 : decode code 2187 = .ok (.iadd, 1) := by decide +kernel
theorem dW_2188 : decode code 2188 = .ok (.iaload, 1) := by decide +kernel
theorem dW_2189 : decode code 2189 = .ok (.invokevirtual 323, 3) := by decide +kernel
theorem dW_2192 : decode code 2192 = .ok (.istore 6, 2) := by decide +kernel
theorem dW_2194 : decode code 2194 = .ok (.goto 162, 3) := by decide +kernel
theorem dW_2197 : decode code 2197 = .ok (.aload_n 1, 1) := by decide +kernel
theorem dW_2198 : decode code 2198 = .ok (.aload_n 0, 1) := by decide +kernel
theorem dW_2199 : decode code 2199 = .ok (.iload 4, 2) := by decide +kernel
theorem dW_2201 : decode code 2201 = .ok (.iconst 1, 1) := by decide +kernel
theorem dW_2202 : decode code 2202 = .ok (.iadd, 1) := by decide +kernel
theorem dW_2203 : decode code 2203 = .ok (.iaload, 1) := by decide +kernel
theorem dW_2204 : decode code 2204 = .ok (.aload_n 0, 1) := by decide +kernel
theorem dW_2205 : decode code 2205 = .ok (.iload 4, 2) := by decide +kernel
theorem dW_2207 : decode code 2207 = .ok (.iconst 2, 1) := by decide +kernel
theorem dW_2208 : decode code 2208 = .ok (.iadd, 1) := by decide +kernel
theorem dW_2209 : decode code 2209 = .ok (.iaload, 1) := by decide +kernel
theorem dW_2210 : decode code 2210 = .ok (.aload_n 0, 1) := by decide +kernel
theorem dW_2211 : decode code 2211 = .ok (.iload 4, 2) := by decide +kernel
theorem dW_2213 : decode code 2213 = .ok (.iconst 3, 1) := by decide +kernel
theorem dW_2214 : decode code 2214 = .ok (.iadd, 1) := by decide +kernel
theorem dW_2215 : decode code 2215 = .ok (.iaload, 1) := by decide +kernel
theorem dW_2216 : decode code 2216 = .ok (.aload_n 3, 1) := by decide +kernel
theorem dW_2217 : decode code 2217 = .ok (.invokestatic 324, 3) := by decide +kernel
theorem dW_2220 : decode code 2220 = .ok (.istore 5, 2) := by decide +kernel
theorem dW_2222 : decode code 2222 = .ok (.aload_n 2, 1) := by decide +kernel
theorem dW_2223 : decode code 2223 = .ok (.aload_n 0, 1) := by decide +kernel
theorem dW_2224 : decode code 2224 = .ok (.iload 4, 2) := by decide +kernel
theorem dW_2226 : decode code 2226 = .ok (.iconst 1, 1) := by decide +kernel
theorem dW_2227 : decode code 2227 = .ok (.iadd, 1) := by decide +kernel
theorem dW_2228 : decode code 2228 = .ok (.iaload, 1) := by decide +kernel
theorem dW_2229 : decode code 2229 = .ok (.aload_n 0, 1) := by decide +kernel
theorem dW_2230 : decode code 2230 = .ok (.iload 4, 2) := by decide +kernel
theorem dW_2232 : decode code 2232 = .ok (.iconst 2, 1) := by decide +kernel
theorem dW_2233 : decode code 2233 = .ok (.iadd, 1) := by decide +kernel
theorem dW_2234 : decode code 2234 = .ok (.iaload, 1) := by decide +kernel
theorem dW_2235 : decode code 2235 = .ok (.aload_n 0, 1) := by decide +kernel
theorem dW_2236 : decode code 2236 = .ok (.iload 4, 2) := by decide +kernel
theorem dW_2238 : decode code 2238 = .ok (.iconst 3, 1) := by decide +kernel
theorem dW_2239 : decode code 2239 = .ok (.iadd, 1) := by decide +kernel
theorem dW_2240 : decode code 2240 = .ok (.iaload, 1) := by decide +kernel
theorem dW_2241 : decode code 2241 = .ok (.invokevirtual 326, 3) := by decide +kernel
theorem dW_2244 : decode code 2244 = .ok (.istore 6, 2) := by decide +kernel
theorem dW_2246 : decode code 2246 = .ok (.goto 110, 3) := by decide +kernel
theorem dW_2249 : decode code 2249 = .ok (.aload_n 1, 1) := by decide +kernel
theorem dW_2250 : decode code 2250 = .ok (.aload_n 0, 1) := by decide +kernel
theorem dW_2251 : decode code 2251 = .ok (.iload 4, 2) := by decide +kernel
theorem dW_2253 : decode code 2253 = .ok (.iconst 1, 1) := by decide +kernel
theorem dW_2254 : decode code 2254 = .ok (.iadd, 1) := by decide +kernel
theorem dW_2255 : decode code 2255 = .ok (.iaload, 1) := by decide +kernel
theorem dW_2256 : decode code 2256 = .ok (.aload_n 0, 1) := by decide +kernel
theorem dW_2257 : decode code 2257 = .ok (.iload 4, 2) := by decide +kernel
theorem dW_2259 : decode code 2259 = .ok (.iconst 2, 1) := by decide +kernel
theorem dW_2260 : decode code 2260 = .ok (.iadd, 1) := by decide +kernel
theorem dW_2261 : decode code 2261 = .ok (.iaload, 1) := by decide +kernel
theorem dW_2262 : decode code 2262 = .ok (.aload_n 3, 1) := by decide +kernel
theorem dW_2263 : decode code 2263 = .ok (.invokestatic 327, 3) := by decide +kernel
theorem dW_2266 : decode code 2266 = .ok (.istore 5, 2) := by decide +kernel
theorem dW_2268 : decode code 2268 = .ok (.aload_n 2, 1) := by decide +kernel
theorem dW_2269 : decode code 2269 = .ok (.aload_n 0, 1) := by decide +kernel
theorem dW_2270 : decode code 2270 = .ok (.iload 4, 2) := by decide +kernel
theorem dW_2272 : decode code 2272 = .ok (.iconst 1, 1) := by decide +kernel
theorem dW_2273 : decode code 2273 = .ok (.iadd, 1) := by decide +kernel
theorem dW_2274 : decode code 2274 = .ok (.iaload, 1) := by decide +kernel
theorem dW_2275 : decode code 2275 = .ok (.aload_n 0, 1) := by decide +kernel
theorem dW_2276 : decode code 2276 = .ok (.iload 4, 2) := by decide +kernel
theorem dW_2278 : decode code 2278 = .ok (.iconst 2, 1) := by decide +kernel
theorem dW_2279 : decode code 2279 = .ok (.iadd, 1) := by decide +kernel
theorem dW_2280 : decode code 2280 = .ok (.iaload, 1) := by decide +kernel
theorem dW_2281 : decode code 2281 = .ok (.invokevirtual 329, 3) := by decide +kernel
theorem dW_2284 : decode code 2284 = .ok (.istore 6, 2) := by decide +kernel
theorem dW_2286 : decode code 2286 = .ok (.goto 70, 3) := by decide +kernel
theorem dW_2289 : decode code 2289 = .ok (.aload_n 1, 1) := by decide +kernel
theorem dW_2290 : decode code 2290 = .ok (.aload_n 0, 1) := by decide +kernel
theorem dW_2291 : decode code 2291 = .ok (.iload 4, 2) := by decide +kernel
theorem dW_2293 : decode code 2293 = .ok (.iconst 1, 1) := by decide +kernel
theorem dW_2294 : decode code 2294 = .ok (.iadd, 1) := by decide +kernel
theorem dW_2295 : decode code 2295 = .ok (.iaload, 1) := by decide +kernel
theorem dW_2296 : decode code 2296 = .ok (.aload_n 3, 1) := by decide +kernel
theorem dW_2297 : decode code 2297 = .ok (.invokestatic 330, 3) := by decide +kernel
theorem dW_2300 : decode code 2300 = .ok (.istore 5, 2) := by decide +kernel
theorem dW_2302 : decode code 2302 = .ok (.aload_n 2, 1) := by decide +kernel
theorem dW_2303 : decode code 2303 = .ok (.aload_n 0, 1) := by decide +kernel
theorem dW_2304 : decode code 2304 = .ok (.iload 4, 2) := by decide +kernel
theorem dW_2306 : decode code 2306 = .ok (.iconst 1, 1) := by decide +kernel
theorem dW_2307 : decode code 2307 = .ok (.iadd, 1) := by decide +kernel
theorem dW_2308 : decode code 2308 = .ok (.iaload, 1) := by decide +kernel
theorem dW_2309 : decode code 2309 = .ok (.invokevirtual 332, 3) := by decide +kernel
theorem dW_2312 : decode code 2312 = .ok (.istore 6, 2) := by decide +kernel
theorem dW_2314 : decode code 2314 = .ok (.goto 42, 3) := by decide +kernel
theorem dW_2317 : decode code 2317 = .ok (.aload_n 1, 1) := by decide +kernel
theorem dW_2318 : decode code 2318 = .ok (.invokevirtual 333, 3) := by decide +kernel
theorem dW_2321 : decode code 2321 = .ok (.pop, 1) := by decide +kernel
theorem dW_2322 : decode code 2322 = .ok (.aload_n 2, 1) := by decide +kernel
theorem dW_2323 : decode code 2323 = .ok (.invokevirtual 336, 3) := by decide +kernel
theorem dW_2326 : decode code 2326 = .ok (.pop, 1) := by decide +kernel
theorem dW_2327 : decode code 2327 = .ok (.goto 29, 3) := by decide +kernel
theorem dW_2330 : decode code 2330 = .ok (.aload_n 1, 1) := by decide +kernel
theorem dW_2331 : decode code 2331 = .ok (.invokevirtual 337, 3) := by decide +kernel
theorem dW_2334 : decode code 2334 = .ok (.pop, 1) := by decide +kernel
theorem dW_2335 : decode code 2335 = .ok (.aload_n 2, 1) := by decide +kernel
theorem dW_2336 : decode code 2336 = .ok (.invokevirtual 341, 3) := by decide +kernel
theorem dW_2339 : decode code 2339 = .ok (.pop, 1) := by decide +kernel
theorem dW_2340 : decode code 2340 = .ok (.goto 16, 3) := by decide +kernel
theorem dW_2343 : decode code 2343 = .ok (.aload_n 1, 1) := by decide +kernel
theorem dW_2344 : decode code 2344 = .ok (.invokevirtual 342, 3) := by decide +kernel
theorem dW_2347 : decode code 2347 = .ok (.pop2, 1) := by decide +kernel
theorem dW_2348 : decode code 2348 = .ok (.aload_n 2, 1) := by decide +kernel
theorem dW_2349 : decode code 2349 = .ok (.invokevirtual 346, 3) := by decide +kernel
theorem dW_2352 : decode code 2352 = .ok (.pop2, 1) := by decide +kernel
theorem dW_2353 : decode code 2353 = .ok (.goto 3, 3) := by decide +kernel
theorem dW_2356 : decode code 2356 = .ok (.iinc 4 5, 3) := by decide +kernel
theorem dW_2359 : decode code 2359 = .ok (.goto (-2332), 3) := by decide +kernel
theorem dW_2362 : decode code 2362 = .ok (.iconst 1, 1) := by decide +kernel
theorem dW_2363 : decode code 2363 = .ok (.ireturn, 1) := by decide +kernel
