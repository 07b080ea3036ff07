theorem dW_1988 : decode code 1988 = .ok (.iaload, 1) := by decide +kernel
theorem dW_1989 : decode code 1989 = .ok (.aload_n 0, 1) := by decide +kernel
theorem dW_1990 : decode code 1990 = .ok (.iload 4, 2) := by decide +kernel
theorem dW_1992 : decode code 1992 = .ok (.iconst 2, 1) := by decide +kernel
theorem dW_1993 : decode code 1993 = .ok (.iadd, 1) := by decide +kernel
theorem dW_1994 : decode code 1994 = .ok (.iaload, 1) := by decide +kernel
theorem dW_1995 : decode code 1995 = .ok (.invokevirtual 306, 3) := by decide +kernel
theorem dW_1998 : decode code 1998 = .ok (.istore 6, 2) := by decide +kernel
theorem dW_2000 : decode code 2000 = .ok (.goto 327, 3) := by decide +kernel
theorem dW_2003 : decode code 2003 = .ok (.aload_n 1, 1) := by decide +kernel
theorem dW_2004 : decode code 2004 = .ok (.aload_n 0, 1) := by decide +kernel
theorem dW_2005 : decode code 2005 = .ok (.iload 4, 2) := by decide +kernel
theorem dW_2007 : decode code 2007 = .ok (.iconst 1, 1) := by decide +kernel
theorem dW_2008 : decode code 2008 = .ok (.iadd, 1) := by decide +kernel
theorem dW_2009 : decode code 2009 = .ok (.iaload, 1) := by decide +kernel
theorem dW_2010 : decode code 2010 = .ok (.aload_n 0, 1) := by decide +kernel
theorem dW_2011 : decode code 2011 = .ok (.iload 4, 2) := by decide +kernel
theorem dW_2013 : decode code 2013 = .ok (.iconst 2, 1) := by decide +kernel
theorem dW_2014 : decode code 2014 = .ok (.iadd, 1) := by decide +kernel
theorem dW_2015 : decode code 2015 = .ok (.iaload, 1) := by decide +kernel
theorem dW_2016 : decode code 2016 = .ok (.aload_n 3, 1) := by decide +kernel
theorem dW_2017 : decode code 2017 = .ok (.invokestatic 307, 3) := by decide +kernel
theorem dW_2020 : decode code 2020 = .ok (.istore 5, 2) := by decide +kernel
theorem dW_2022 : decode code 2022 = .ok (.aload_n 2, 1) := by decide +kernel
theorem dW_2023 : decode code 2023 = .ok (.aload_n 0, 1) := by decide +kernel
theorem dW_2024 : decode code 2024 = .ok (.iload 4, 2) := by decide +kernel
theorem dW_2026 : decode code 2026 = .ok (.iconst 1, 1) := by decide +kernel
theorem dW_2027 : decode code 2027 = .ok (.iadd, 1) := by decide +kernel
theorem dW_2028 : decode code 2028 = .ok (.iaload, 1) := by decide +kernel
theorem dW_2029 : decode code 2029 = .ok (.aload_n 0, 1) := by decide +kernel
theorem dW_2030 : decode code 2030 = .ok (.iload 4, 2) := by decide +kernel
theorem dW_2032 : decode code 2032 = .ok (.iconst 2, 1) := by decide +kernel
theorem dW_2033 : decode code 2033 = .ok (.iadd, 1) := by decide +kernel
theorem dW_2034 : decode code 2034 = .ok (.iaload, 1) := by decide +kernel
theorem dW_2035 : decode code 2035 = .ok (.invokevirtual 309, 3) := by decide +kernel
theorem dW_2038 : decode code 2038 = .ok (.istore 6, 2) := by decide +kernel
theorem dW_2040 : decode code 2040 = .ok (.goto 287, 3) := by decide +kernel
theorem dW_2043 : decode code 2043 = .ok (.aload_n 1, 1) := by decide +kernel
theorem dW_2044 : decode code 2044 = .ok (.aload_n 0, 1) := by decide +kernel
theorem dW_2045 : decode code 2045 = .ok (.iload 4, 2) := by decide +kernel
theorem dW_2047 : decode code 2047 = .ok (.iconst 1, 1) := by decide +kernel
theorem dW_2048 : decode code 2048 = .ok (.iadd, 1) := by decide +kernel
theorem dW_2049 : decode code 2049 = .ok (.iaload, 1) := by decide +kernel
theorem dW_2050 : decode code 2050 = .ok (.ifCond .eq 7, 3) := by decide +kernel
theorem dW_2053 : decode code 2053 = .ok (.iconst 1, 1) := by decide +kernel
theorem dW_2054 : decode code 2054 = .ok (.goto 4, 3) := by decide +kernel
theorem dW_2057 : decode code 2057 = .ok (.iconst 0, 1) := by decide +kernel
theorem dW_2058 : decode code 2058 = .ok (.invokevirtual 310, 3) := by decide +kernel
theorem dW_2061 : decode code 2061 = .ok (.pop, 1) := by decide +kernel
theorem dW_2062 : decode code 2062 = .ok (.aload_n 2, 1) := by decide +kernel
theorem dW_2063 : decode code 2063 = .ok (.aload_n 0, 1) := by decide +kernel
theorem dW_2064 : decode code 2064 = .ok (.iload 4, 2) := by decide +kernel
theorem dW_2066 : decode code 2066 = .ok (.iconst 1, 1) := by decide +kernel
theorem dW_2067 : decode code 2067 = .ok (.iadd, 1) := by decide +kernel
theorem dW_2068 : decode code 2068 = .ok (.iaload, 1) := by decide +kernel
theorem dW_2069 : decode code 2069 = .ok (.ifCond .eq 7, 3) := by decide +kernel
theorem dW_2072 : decode code 2072 = .ok (.iconst 1, 1) := by decide +kernel
theorem dW_2073 : decode code 2073 = .ok (.goto 4, 3) := by decide +kernel
theorem dW_2076 : decode code 2076 = .ok (.iconst 0, 1) := by decide +kernel
theorem dW_2077 : decode code 2077 = .ok (.invokevirtual 314, 3) := by decide +kernel
theorem dW_2080 : decode code 2080 = .ok (.pop, 1) := by decide +kernel
theorem dW_2081 : decode code 2081 = .ok (.goto 246, 3) := by decide +kernel
theorem dW_2084 : decode code 2084 = .ok (.aload_n 1, 1) := by decide +kernel
theorem dW_2085 : decode code 2085 = .ok (.aload_n 0, 1) := by decide +kernel
theorem dW_2086 : decode code 2086 = .ok (.iload 4, 2) := by decide +kernel
theorem dW_2088 : decode code 2088 = .ok (.iconst 1, 1) := by decide +kernel
theorem dW_2089 : decode code 2089 = .ok (.iadd, 1) := by decide +kernel
theorem dW_2090 : decode code 2090 = .ok (.iaload, 1) := by decide +kernel
theorem dW_2091 : decode code 2091 = .ok (.aload_n 0, 1) := by decide +kernel
theorem dW_2092 : decode code 2092 = .ok (.iload 4, 2) := by decide +kernel
theorem dW_2094 : decode code 2094 = .ok (.iconst 2, 1) := by decide +kernel
theorem dW_2095 : decode code 2095 = .ok (.iadd, 1) := by decide +kernel
theorem dW_2096 : decode code 2096 = .ok (.iaload, 1) := by decide +kernel
theorem dW_2097 : decode code 2097 = .ok (.ifCond .eq 7, 3) := by decide +kernel
theorem dW_2100 : decode code 2100 = .ok (.iconst 1, 1) := by decide +kernel
theorem dW_2101 : decode code 2101 = .ok (.goto 4, 3) := by decide +kernel
theorem dW_2104 : decode code 2104 = .ok (.iconst 0, 1) := by decide +kernel
theorem dW_2105 : decode code 2105 = .ok (.aload_n 3, 1) := by decide +kernel
theorem dW_2106 : decode code 2106 = .ok (.invokestatic 315, 3) := by decide +kernel
theorem dW_2109 : decode code 2109 = .ok (.istore 5, 2) := by decide +kernel
theorem dW_2111 : decode code 2111 = .ok (.aload_n 2, 1) := by decide +kernel
theorem dW_2112 : decode code 2112 = .ok (.aload_n 0, 1) := by decide +kernel
theorem dW_2113 : decode code 2113 = .ok (.iload 4, 2) := by decide +kernel
theorem dW_2115 : decode code 2115 = .ok (.iconst 1, 1) := by decide +kernel
theorem dW_2116 : decode code 2116 = .ok (.iadd, 1) := by decide +kernel
theorem dW_2117 : decode code 2117 = .ok (.iaload, 1) := by decide +kernel
theorem dW_2118 : decode code 2118 = .ok (.aload_n 0, 1) := by decide +kernel
theorem dW_2119 : decode code 2119 = .ok (.iload 4, 2) := by decide +kernel
theorem dW_2121 : decode code 2121 = .ok (.iconst 2, 1) := by decide +kernel
theorem dW_2122 : decode code 2122 = .ok (.iadd, 1) := by decide +kernel
theorem dW_2123 : decode code 2123 = .ok (.iaload, 1) := by decide +kernel
theorem dW_2124 : decode code 2124 = .ok (.ifCond .eq 7, 3) := by decide +kernel
theorem dW_2127 : decode code 2127 = .ok (.iconst 1, 1) := by decide +kernel
theorem dW_2128 : decode code 2128 = .ok (.goto 4, 3) := by decide +kernel
theorem dW_2131 : decode code 2131 = .ok (.iconst 0, 1) := by decide +kernel
theorem dW_2132 : decode code 2132 = .ok (.invokevirtual 317, 3) := by decide +kernel
theorem dW_2135 : decode code 2135 = .ok (.astore 6, 2) := by decide +kernel
theorem dW_2137 : decode code 2137 = .ok (.goto 190, 3) := by decide +kernel
theorem dW_2140 : decode code 2140 = .ok (.aload_n 1, 1) := by decide +kernel
theorem dW_2141 : decode code 2141 = .ok (.aload_n 0, 1) := by decide +kernel
theorem dW_2142 : decode code 2142 = .ok (.iload 4, 2) := by decide +kernel
theorem dW_2144 : decode code 2144 = .ok (.iconst 1, 1) := by decide +kernel
theorem dW_2145 : decode code 2145 = .ok (.iadd, 1) := by decide +kernel
theorem dW_2146 : decode code 2146 = .ok (.iaload, 1) := by decide +kernel
theorem dW_2147 : decode code 2147 = .ok (.aload_n 3, 1) := by decide +kernel
theorem dW_2148 : decode code 2148 = .ok (.invokestatic 318, 3) := by decide +kernel
theorem dW_2151 : decode code 2151 = .ok (.istore 5, 2) := by decide +kernel
theorem dW_2153 : decode code 2153 = .ok (.aload_n 2, 1) := by decide +kernel
theorem dW_2154 : decode code 2154 = .ok (.aload_n 0, 1) := by decide +kernel
theorem dW_2155 : decode code 2155 = .ok (.iload 4, 2) := by decide +kernel
theorem dW_2157 : decode code 2157 = .ok (.iconst 1, 1) := by decide +kernel
theorem dW_2158 : decode code 2158 = .ok (.iadd, 1) := by decide +kernel
theorem dW_2159 : decode code 2159 = .ok (.iaload, 1) := by decide +kernel
theorem dW_2160 : decode code 2160 = .ok (.invokevirtual 320, 3) := by decide +kernel
theorem dW_2163 : decode code 2163 = .ok (.istore 6, 2) := by decide +kernel
theorem dW_2165 : decode code 2165 = .ok (.goto 162, 3) := by decide +kernel
theorem dW_2168 : decode code 2168 = .ok (.aload_n 1, 1) := by decide +kernel
theorem dW_2169 : decode code 2169 = .ok (.aload_n 0, 1) := by decide +kernel
theorem dW_2170 : decode code 2170 = .ok (.iload 4, 2) := by decide +kernel
theorem dW_2172 : decode code 2172 = .ok (.iconst 1, 1) := by decide +kernel
theorem dW_2173 : decode code 2173 = .ok (.iadd, 1) := by decide +kernel
theorem dW_2174 : decode code 2174 = .ok (.iaload, 1) := by decide +kernel
theorem dW_2175 : decode code 2175 = .ok (.aload_n 0, 1) := by decide +kernel
theorem dW_2176 : decode code 2176 = .ok (.iload 4, 2) := by decide +kernel
theorem dW_2178 : decode code 2178 = .ok (.iconst 2, 1) := by decide +kernel
theorem dW_2179 : decode code 2179 = .ok (.iadd, 1) := by decide +kernel
theorem dW_2180 : decode code 2180 = .ok (.iaload, 1) := by decide +kernel
theorem dW_2181 : decode code 2181 = .ok (.aload_n 0, 1) := by decide +kernel
theorem dW_2182 : decode code 2182 = .ok (.iload 4, 2) := by decide +kernel
theorem dW_2184 : decode code 2184 = .ok (.iconst 3, 1) := by decide +kernel
theorem dW_2185 : decode code 2185 = .ok (.iadd, 1) := by decide +kernel
theorem dW_2186 : decode code 2186 = .ok (.iaload, 1) := by decide +kernel
theorem dW_2187 : decode code 2187 = .ok (.aload_n 3, 1) := by decide +kernel
theorem dW_2188 : decode code 2188 = .ok (.invokestatic 321, 3) := by decide +kernel
theorem dW_2191 : decode code 2191 = .ok (.istore 5, 2) := by decide +kernel
theorem dW_2193 : decode code 2193 = .ok (.aload_n 2, 1) := by decide +kernel
theorem dW_2194 : decode code 2194 = .ok (.aload_n 0, 1) := by decide +kernel
theorem dW_2195 : decode code 2195 = .ok (.iload 4, 2) := by decide +kernel
theorem dW_2197 : decode code 2197 = .ok (.iconst 1, 1) := by decide +kernel
theorem dW_2198 : decode code 2198 = .ok (.iadd, 1) := by decide +kernel
theorem dW_2199 : decode code 2199 = .ok (.iaload, 1) := by decide +kernel
theorem dW_2200 : decode code 2200 = .ok (.aload_n 0, 1) := by decide +kernel
theorem dW_2201 : decode code 2201 = .ok (.iload 4, 2) := by decide +kernel
theorem dW_2203 : decode code 2203 = .ok (.iconst 2, 1) := by decide +kernel
theorem dW_2204 : decode code 2204 = .ok (.iadd, 1) := by decide +kernel
theorem dW_2205 : decode code 2205 = .ok (.iaload, 1) := by decide +kernel
theorem dW_2206 : decode code 2206 = .ok (.aload_n 0, 1) := by decide +kernel
theorem dW_2207 : decode code 2207 = .ok (.iload 4, 2) := by decide +kernel
theorem dW_2209 : decode code 2209 = .ok (.iconst 3, 1) := by decide +kernel
theorem dW_2210 : decode code 2210 = .ok (.iadd, 1) := by decide +kernel
theorem dW_2211 : decode code 2211 = .ok (.iaload, 1) := by decide +kernel
theorem dW_2212 : decode code 2212 = .ok (.invokevirtual 323, 3) := by decide +kernel
theorem dW_2215 : decode code 2215 = .ok (.istore 6, 2) := by decide +kernel
theorem dW_2217 : decode code 2217 = .ok (.goto 110, 3) := by decide +kernel
theorem dW_2220 : decode code 2220 = .ok (.aload_n 1, 1) := by decide +kernel
theorem dW_2221 : decode code 2221 = .ok (.aload_n 0, 1) := by decide +kernel
theorem dW_2222 : decode code 2222 = .ok (.iload 4, 2) := by decide +kernel
theorem dW_2224 : decode code 2224 = .ok (.iconst 1, 1) := by decide +kernel
theorem dW_2225 : decode code 2225 = .ok (.iadd, 1) := by decide +kernel
theorem dW_2226 : decode code 2226 = .ok (.iaload, 1) := by decide +kernel
theorem dW_2227 : decode code 2227 = .ok (.aload_n 0, 1) := by decide +kernel
theorem dW_2228 : decode code 2228 = .ok (.iload 4, 2) := by decide +kernel
theorem dW_2230 : decode code 2230 = .ok (.iconst 2, 1) := by decide +kernel
theorem dW_2231 : decode code 2231 = .ok (.iadd, 1) := by decide +kernel
theorem dW_2232 : decode code 2232 = .ok (.iaload, 1) := by decide +kernel
theorem dW_2233 : decode code 2233 = .ok (.aload_n 3, 1) := by decide +kernel
theorem dW_2234 : decode code 2234 = .ok (.invokestatic 324, 3) := by decide +kernel
theorem dW_2237 : decode code 2237 = .ok (.istore 5, 2) := by decide +kernel
theorem dW_2239 : decode code 2239 = .ok (.aload_n 2, 1) := by decide +kernel
theorem dW_2240 : decode code 2240 = .ok (.aload_n 0, 1) := by decide +kernel
theorem dW_2241 : decode code 2241 = .ok (.iload 4, 2) := by decide +kernel
theorem dW_2243 : decode code 2243 = .ok (.iconst 1, 1) := by decide +kernel
theorem dW_2244 : decode code 2244 = .ok (.iadd, 1) := by decide +kernel
theorem dW_2245 : decode code 2245 = .ok (.iaload, 1) := by decide +kernel
theorem dW_2246 : decode code 2246 = .ok (.aload_n 0, 1) := by decide +kernel
theorem dW_2247 : decode code 2247 = .ok (.iload 4, 2) := by decide +kernel
theorem dW_2249 : decode code 2249 = .ok (.iconst 2, 1) := by decide +kernel
theorem dW_2250 : decode code 2250 = .ok (.iadd, 1) := by decide +kernel
theorem dW_2251 : decode code 2251 = .ok (.iaload, 1) := by decide +kernel
theorem dW_2252 : decode code 2252 = .ok (.invokevirtual 326, 3) := by decide +kernel
theorem dW_2255 : decode code 2255 = .ok (.istore 6, 2) := by decide +kernel
theorem dW_2257 : decode code 2257 = .ok (.goto 70, 3) := by decide +kernel
theorem dW_2260 : decode code 2260 = .ok (.aload_n 1, 1) := by decide +kernel
theorem dW_2261 : decode code 2261 = .ok (.aload_n 0, 1) := by decide +kernel
theorem dW_2262 : decode code 2262 = .ok (.iload 4, 2) := by decide +kernel
theorem dW_2264 : decode code 2264 = .ok (.iconst 1, 1) := by decide +kernel
theorem dW_2265 : decode code 2265 = .ok (.iadd, 1) := by decide +kernel
theorem dW_2266 : decode code 2266 = .ok (.iaload, 1) := by decide +kernel
theorem dW_2267 : decode code 2267 = .ok (.aload_n 3, 1) := by decide +kernel
theorem dW_2268 : decode code 2268 = .ok (.invokestatic 327, 3) := by decide +kernel
theorem dW_2271 : decode code 2271 = .ok (.istore 5, 2) := by decide +kernel
theorem dW_2273 : decode code 2273 = .ok (.aload_n 2, 1) := by decide +kernel
theorem dW_2274 : decode code 2274 = .ok (.aload_n 0, 1) := by decide +kernel
theorem dW_2275 : decode code 2275 = .ok (.iload 4, 2) := by decide +kernel
theorem dW_2277 : decode code 2277 = .ok (.iconst 1, 1) := by decide +kernel
theorem dW_2278 : decode code 2278 = .ok (.iadd, 1) := by decide +kernel
theorem dW_2279 : decode code 2279 = .ok (.iaload, 1) := by decide +kernel
theorem dW_2280 : decode code 2280 = .ok (.invokevirtual 329, 3) := by decide +kernel
theorem dW_2283 : decode code 2283 = .ok (.istore 6, 2) := by decide +kernel
theorem dW_2285 : decode code 2285 = .ok (.goto 42, 3) := by decide +kernel
theorem dW_2288 : decode code 2288 = .ok (.aload_n 1, 1) := by decide +kernel
theorem dW_2289 : decode code 2289 = .ok (.invokevirtual 330, 3) := by decide +kernel
theorem dW_2292 : decode code 2292 = .ok (.pop, 1) := by decide +kernel
theorem dW_2293 : decode code 2293 = .ok (.aload_n 2, 1) := by decide +kernel
theorem dW_2294 : decode code 2294 = .ok (.invokevirtual 333, 3) := by decide +kernel
theorem dW_2297 : decode code 2297 = .ok (.pop, 1) := by decide +kernel
theorem dW_2298 : decode code 2298 = .ok (.goto 29, 3) := by decide +kernel
theorem dW_2301 : decode code 2301 = .ok (.aload_n 1, 1) := by decide +kernel
theorem dW_2302 : decode code 2302 = .ok (.invokevirtual 334, 3) := by decide +kernel
theorem dW_2305 : decode code 2305 = .ok (.pop, 1) := by decide +kernel
theorem dW_2306 : decode code 2306 = .ok (.aload_n 2, 1) := by decide +kernel
theorem dW_2307 : decode code 2307 = .ok (.invokevirtual 338, 3) := by decide +kernel
theorem dW_2310 : decode code 2310 = .ok (.pop, 1) := by decide +kernel
theorem dW_2311 : decode code 2311 = .ok (.goto 16, 3) := by decide +kernel
theorem dW_2314 : decode code 2314 = .ok (.aload_n 1, 1) := by decide +kernel
theorem dW_2315 : decode code 2315 = .ok (.invokevirtual 339, 3) := by decide +kernel
theorem dW_2318 : decode code 2318 = .ok (.pop2, 1) := by decide +kernel
theorem dW_2319 : decode code 2319 = .ok (.aload_n 2, 1) := by decide +kernel
theorem dW_2320 : decode code 2320 = .ok (.invokevirtual 343, 3) := by decide +kernel
theorem dW_2323 : decode code 2323 = .ok (.pop2, 1) := by decide +kernel
theorem dW_2324 : decode code 2324 = .ok (.goto 3, 3) := by decide +kernel
theorem dW_2327 : decode code 2327 = .ok (.iinc 4 5, 3) := by decide +kernel
theorem dW_2330 : decode code 2330 = .ok (.goto (-2303), 3) := by decide +kernel
theorem dW_2333 : decode code 2333 = .ok (.iconst 1, 1) := by decide +kernel
theorem dW_2334 : decode code 2334 = .ok (.ireturn, 1) := by decide +kernel
