theorem bv_0 {i : Nat} {b : UInt8} (h : ([0xbb, 0x00, 0x08, 0x59, 0xb7, 0x00, 0xa7, 0x4c, 0xbb, 0x00, 0xa8, 0x59, 0xb7, 0x00, 0xaa, 0x4d, 0xbb, 0x00, 0x0e, 0x59, 0xb7, 0x00, 0xab, 0x4e] : List UInt8)[i]? = some b) : by8 code (0 + i) b := (vy_in (n := 24) (by decide +kernel) h : vy_8 code (0 + i) b)
theorem bv_1 {i : Nat} {b : UInt8} (h : ([0x03, 0x36, 0x04, 0x15, 0x04, 0x2a, 0xbe, 0x08, 0x64, 0xa3, 0x09, 0x19, 0x2a, 0x15, 0x04, 0x2e, 0x10, 0x3f, 0x7e, 0xaa, 0x00, 0x00, 0x09, 0x09] : List UInt8)[i]? = some b) : by8 code (24 + i) b := (vy_in (n := 24) (by decide +kernel) h : vy_8 code (24 + i) b)
theorem bv_2 {i : Nat} {b : UInt8} (h : ([0x00, 0x00, 0x00, 0x00, 0x00, 0x00, 0x00, 0x31, 0x00, 0x00, 0x00, 0xd5, 0x00, 0x00, 0x01, 0x25, 0x00, 0x00, 0x01, 0x75, 0x00, 0x00, 0x01, 0xa9] : List UInt8)[i]? = some b) : by8 code (48 + i) b := (vy_in (n := 24) (by decide +kernel) h : vy_8 code (48 + i) b)
theorem bv_3 {i : Nat} {b : UInt8} (h : ([0x00, 0x00, 0x01, 0xdd, 0x00, 0x00, 0x02, 0x1d, 0x00, 0x00, 0x02, 0x55, 0x00, 0x00, 0x02, 0x8d, 0x00, 0x00, 0x02, 0xa9, 0x00, 0x00, 0x02, 0xe1] : List UInt8)[i]? = some b) : by8 code (72 + i) b := (vy_in (n := 24) (by decide +kernel) h : vy_8 code (72 + i) b)
theorem bv_4 {i : Nat} {b : UInt8} (h : ([0x00, 0x00, 0x03, 0x09, 0x00, 0x00, 0x03, 0x16, 0x00, 0x00, 0x03, 0x5a, 0x00, 0x00, 0x03, 0x82, 0x00, 0x00, 0x03, 0xd2, 0x00, 0x00, 0x04, 0x16] : List UInt8)[i]? = some b) : by8 code (96 + i) b := (vy_in (n := 24) (by decide +kernel) h : vy_8 code (96 + i) b)
theorem bv_5 {i : Nat} {b : UInt8} (h : ([0x00, 0x00, 0x04, 0x32, 0x00, 0x00, 0x04, 0x4e, 0x00, 0x00, 0x04, 0x77, 0x00, 0x00, 0x04, 0xa0, 0x00, 0x00, 0x04, 0xb0, 0x00, 0x00, 0x04, 0xc0] : List UInt8)[i]? = some b) : by8 code (120 + i) b := (vy_in (n := 24) (by decide +kernel) h : vy_8 code (120 + i) b)
theorem bv_6 {i : Nat} {b : UInt8} (h : ([0x00, 0x00, 0x04, 0xf4, 0x00, 0x00, 0x05, 0x10, 0x00, 0x00, 0x05, 0x44, 0x00, 0x00, 0x05, 0x60, 0x00, 0x00, 0x05, 0x98, 0x00, 0x00, 0x05, 0xb4] : List UInt8)[i]? = some b) : by8 code (144 + i) b := (vy_in (n := 24) (by decide +kernel) h : vy_8 code (144 + i) b)
theorem bv_7 {i : Nat} {b : UInt8} (h : ([0x00, 0x00, 0x05, 0xdc, 0x00, 0x00, 0x06, 0x04, 0x00, 0x00, 0x06, 0x20, 0x00, 0x00, 0x06, 0x3c, 0x00, 0x00, 0x06, 0x58, 0x00, 0x00, 0x06, 0x8c] : List UInt8)[i]? = some b) : by8 code (168 + i) b := (vy_in (n := 24) (by decide +kernel) h : vy_8 code (168 + i) b)
theorem bv_8 {i : Nat} {b : UInt8} (h : ([0x00, 0x00, 0x06, 0xc0, 0x00, 0x00, 0x06, 0xe8, 0x00, 0x00, 0x07, 0x04, 0x00, 0x00, 0x07, 0x20, 0x00, 0x00, 0x07, 0x58, 0x00, 0x00, 0x07, 0x80] : List UInt8)[i]? = some b) : by8 code (192 + i) b := (vy_in (n := 24) (by decide +kernel) h : vy_8 code (192 + i) b)
theorem bv_9 {i : Nat} {b : UInt8} (h : ([0x00, 0x00, 0x07, 0xa8, 0x00, 0x00, 0x07, 0xd0, 0x00, 0x00, 0x07, 0xf9, 0x00, 0x00, 0x08, 0x31, 0x00, 0x00, 0x08, 0x4d, 0x00, 0x00, 0x08, 0x81] : List UInt8)[i]? = some b) : by8 code (216 + i) b := (vy_in (n := 24) (by decide +kernel) h : vy_8 code (216 + i) b)
theorem bv_10 {i : Nat} {b : UInt8} (h : ([0x00, 0x00, 0x08, 0xa9, 0x00, 0x00, 0x08, 0xe2, 0x00, 0x00, 0x08, 0xef, 0x00, 0x00, 0x08, 0xfc, 0x2b, 0x2a, 0x15, 0x04, 0x04, 0x60, 0x2e, 0x2a] : List UInt8)[i]? = some b) : by8 code (240 + i) b := (vy_in (n := 24) (by decide +kernel) h : vy_8 code (240 + i) b)
theorem bv_11 {i : Nat} {b : UInt8} (h : ([0x15, 0x04, 0x05, 0x60, 0x2e, 0x99, 0x00, 0x07, 0x04, 0xa7, 0x00, 0x04, 0x03, 0x2a, 0x15, 0x04, 0x06, 0x60, 0x2e, 0x2a, 0x15, 0x04, 0x07, 0x60] : List UInt8)[i]? = some b) : by8 code (264 + i) b := (vy_in (n := 24) (by decide +kernel) h : vy_8 code (264 + i) b)
theorem bv_12 {i : Nat} {b : UInt8} (h : ([0x2e, 0x2d, 0xb8, 0x00, 0xac, 0x36, 0x05, 0x2c, 0x2a, 0x15, 0x04, 0x04, 0x60, 0x2e, 0x2a, 0x15, 0x04, 0x05, 0x60, 0x2e, 0x99, 0x00, 0x07, 0x04] : List UInt8)[i]? = some b) : by8 code (288 + i) b := (vy_in (n := 24) (by decide +kernel) h : vy_8 code (288 + i) b)
theorem bv_13 {i : Nat} {b : UInt8} (h : ([0xa7, 0x00, 0x04, 0x03, 0x2a, 0x15, 0x04, 0x06, 0x60, 0x2e, 0x2a, 0x15, 0x04, 0x07, 0x60, 0x2e, 0xb6, 0x00, 0xb1, 0x36, 0x06, 0xa7, 0x07, 0xe7] : List UInt8)[i]? = some b) : by8 code (312 + i) b := (vy_in (n := 24) (by decide +kernel) h : vy_8 code (312 + i) b)
theorem bv_14 {i : Nat} {b : UInt8} (h : ([0x2b, 0x2a, 0x15, 0x04, 0x04, 0x60, 0x2e, 0x2a, 0x15, 0x04, 0x05, 0x60, 0x2e, 0x99, 0x00, 0x07, 0x04, 0xa7, 0x00, 0x04, 0x03, 0x2a, 0x15, 0x04] : List UInt8)[i]? = some b) : by8 code (336 + i) b := (vy_in (n := 24) (by decide +kernel) h : vy_8 code (336 + i) b)
theorem bv_15 {i : Nat} {b : UInt8} (h : ([0x06, 0x60, 0x2e, 0x2a, 0x15, 0x04, 0x07, 0x60, 0x2e, 0x2d, 0xb8, 0x00, 0xb2, 0x36, 0x05, 0x2c, 0x2a, 0x15, 0x04, 0x04, 0x60, 0x2e, 0x2a, 0x15] : List UInt8)[i]? = some b) : by8 code (360 + i) b := (vy_in (n := 24) (by decide +kernel) h : vy_8 code (360 + i) b)
theorem bv_16 {i : Nat} {b : UInt8} (h : ([0x04, 0x05, 0x60, 0x2e, 0x99, 0x00, 0x07, 0x04, 0xa7, 0x00, 0x04, 0x03, 0x2a, 0x15, 0x04, 0x06, 0x60, 0x2e, 0x2a, 0x15, 0x04, 0x07, 0x60, 0x2e] : List UInt8)[i]? = some b) : by8 code (384 + i) b := (vy_in (n := 24) (by decide +kernel) h : vy_8 code (384 + i) b)
theorem bv_17 {i : Nat} {b : UInt8} (h : ([0xb6, 0x00, 0xb4, 0x36, 0x06, 0xa7, 0x07, 0x97, 0x2b, 0x2a, 0x15, 0x04, 0x04, 0x60, 0x2e, 0x2a, 0x15, 0x04, 0x05, 0x60, 0x2e, 0x2a, 0x15, 0x04] : List UInt8)[i]? = some b) : by8 code (408 + i) b := (vy_in (n := 24) (by decide +kernel) h : vy_8 code (408 + i) b)
theorem bv_18 {i : Nat} {b : UInt8} (h : ([0x06, 0x60, 0x2e, 0x2d, 0xb8, 0x00, 0xb5, 0x36, 0x05, 0x2c, 0x2a, 0x15, 0x04, 0x04, 0x60, 0x2e, 0x2a, 0x15, 0x04, 0x05, 0x60, 0x2e, 0x2a, 0x15] : List UInt8)[i]? = some b) : by8 code (432 + i) b := (vy_in (n := 24) (by decide +kernel) h : vy_8 code (432 + i) b)
theorem bv_19 {i : Nat} {b : UInt8} (h : ([0x04, 0x06, 0x60, 0x2e, 0xb6, 0x00, 0xb8, 0x36, 0x06, 0xa7, 0x07, 0x63, 0x2b, 0x2a, 0x15, 0x04, 0x04, 0x60, 0x2e, 0x2a, 0x15, 0x04, 0x05, 0x60] : List UInt8)[i]? = some b) : by8 code (456 + i) b := (vy_in (n := 24) (by decide +kernel) h : vy_8 code (456 + i) b)
theorem bv_20 {i : Nat} {b : UInt8} (h : ([0x2e, 0x2a, 0x15, 0x04, 0x06, 0x60, 0x2e, 0x2d, 0xb8, 0x00, 0xb9, 0x36, 0x05, 0x2c, 0x2a, 0x15, 0x04, 0x04, 0x60, 0x2e, 0x2a, 0x15, 0x04, 0x05] : List UInt8)[i]? = some b) : by8 code (480 + i) b := (vy_in (n := 24) (by decide +kernel) h : vy_8 code (480 + i) b)
theorem bv_21 {i : Nat} {b : UInt8} (h : ([0x60, 0x2e, 0x2a, 0x15, 0x04, 0x06, 0x60, 0x2e, 0xb6, 0x00, 0xbb, 0x36, 0x06, 0xa7, 0x07, 0x2f, 0x2b, 0x2a, 0x15, 0x04, 0x04, 0x60, 0x2e, 0x2a] : List UInt8)[i]? = some b) : by8 code (504 + i) b := (vy_in (n := 24) (by decide +kernel) h : vy_8 code (504 + i) b)
theorem bv_22 {i : Nat} {b : UInt8} (h : ([0x15, 0x04, 0x05, 0x60, 0x2e, 0x2a, 0x15, 0x04, 0x06, 0x60, 0x2e, 0x2a, 0x15, 0x04, 0x07, 0x60, 0x2e, 0x2d, 0xb8, 0x00, 0xbc, 0x36, 0x05, 0x2c] : List UInt8)[i]? = some b) : by8 code (528 + i) b := (vy_in (n := 24) (by decide +kernel) h : vy_8 code (528 + i) b)
theorem bv_23 {i : Nat} {b : UInt8} (h : ([0x2a, 0x15, 0x04, 0x04, 0x60, 0x2e, 0x2a, 0x15, 0x04, 0x05, 0x60, 0x2e, 0x2a, 0x15, 0x04, 0x06, 0x60, 0x2e, 0x2a, 0x15, 0x04, 0x07, 0x60, 0x2e] : List UInt8)[i]? = some b) : by8 code (552 + i) b := (vy_in (n := 24) (by decide +kernel) h : vy_8 code (552 + i) b)
theorem bv_24 {i : Nat} {b : UInt8} (h : ([0xb6, 0x00, 0xbf, 0x36, 0x06, 0xa7, 0x06, 0xef, 0x2b, 0x2a, 0x15, 0x04, 0x04, 0x60, 0x2e, 0x2a, 0x15, 0x04, 0x05, 0x60, 0x2e, 0x99, 0x00, 0x07] : List UInt8)[i]? = some b) : by8 code (576 + i) b := (vy_in (n := 24) (by decide +kernel) h : vy_8 code (576 + i) b)
theorem bv_25 {i : Nat} {b : UInt8} (h : ([0x04, 0xa7, 0x00, 0x04, 0x03, 0x2d, 0xb8, 0x00, 0xc0, 0x36, 0x05, 0x2c, 0x2a, 0x15, 0x04, 0x04, 0x60, 0x2e, 0x2a, 0x15, 0x04, 0x05, 0x60, 0x2e] : List UInt8)[i]? = some b) : by8 code (600 + i) b := (vy_in (n := 24) (by decide +kernel) h : vy_8 code (600 + i) b)
theorem bv_26 {i : Nat} {b : UInt8} (h : ([0x99, 0x00, 0x07, 0x04, 0xa7, 0x00, 0x04, 0x03, 0xb6, 0x00, 0xc3, 0x36, 0x06, 0xa7, 0x06, 0xb7, 0x2b, 0x2a, 0x15, 0x04, 0x04, 0x60, 0x2e, 0x2a] : List UInt8)[i]? = some b) : by8 code (624 + i) b := (vy_in (n := 24) (by decide +kernel) h : vy_8 code (624 + i) b)
theorem bv_27 {i : Nat} {b : UInt8} (h : ([0x15, 0x04, 0x05, 0x60, 0x2e, 0x99, 0x00, 0x07, 0x04, 0xa7, 0x00, 0x04, 0x03, 0x2d, 0xb8, 0x00, 0xc4, 0x36, 0x05, 0x2c, 0x2a, 0x15, 0x04, 0x04] : List UInt8)[i]? = some b) : by8 code (648 + i) b := (vy_in (n := 24) (by decide +kernel) h : vy_8 code (648 + i) b)
theorem bv_28 {i : Nat} {b : UInt8} (h : ([0x60, 0x2e, 0x2a, 0x15, 0x04, 0x05, 0x60, 0x2e, 0x99, 0x00, 0x07, 0x04, 0xa7, 0x00, 0x04, 0x03, 0xb6, 0x00, 0xc6, 0x36, 0x06, 0xa7, 0x06, 0x7f] : List UInt8)[i]? = some b) : by8 code (672 + i) b := (vy_in (n := 24) (by decide +kernel) h : vy_8 code (672 + i) b)
theorem bv_29 {i : Nat} {b : UInt8} (h : ([0x2b, 0x2a, 0x15, 0x04, 0x04, 0x60, 0x2e, 0x2d, 0xb8, 0x00, 0xc7, 0x36, 0x05, 0x2c, 0x2a, 0x15, 0x04, 0x04, 0x60, 0x2e, 0xb6, 0x00, 0xca, 0x36] : List UInt8)[i]? = some b) : by8 code (696 + i) b := (vy_in (n := 24) (by decide +kernel) h : vy_8 code (696 + i) b)
theorem bv_30 {i : Nat} {b : UInt8} (h : ([0x06, 0xa7, 0x06, 0x63, 0x2b, 0x2a, 0x15, 0x04, 0x04, 0x60, 0x2e, 0x2a, 0x15, 0x04, 0x05, 0x60, 0x2e, 0x99, 0x00, 0x07, 0x04, 0xa7, 0x00, 0x04] : List UInt8)[i]? = some b) : by8 code (720 + i) b := (vy_in (n := 24) (by decide +kernel) h : vy_8 code (720 + i) b)
theorem bv_31 {i : Nat} {b : UInt8} (h : ([0x03, 0x2d, 0xb8, 0x00, 0xcb, 0x36, 0x05, 0x2c, 0x2a, 0x15, 0x04, 0x04, 0x60, 0x2e, 0x2a, 0x15, 0x04, 0x05, 0x60, 0x2e, 0x99, 0x00, 0x07, 0x04] : List UInt8)[i]? = some b) : by8 code (744 + i) b := (vy_in (n := 24) (by decide +kernel) h : vy_8 code (744 + i) b)
theorem bv_32 {i : Nat} {b : UInt8} (h : ([0xa7, 0x00, 0x04, 0x03, 0xb6, 0x00, 0xcd, 0x36, 0x06, 0xa7, 0x06, 0x2b, 0x2b, 0x2a, 0x15, 0x04, 0x04, 0x60, 0x2e, 0x2a, 0x15, 0x04, 0x05, 0x60] : List UInt8)[i]? = some b) : by8 code (768 + i) b := (vy_in (n := 24) (by decide +kernel) h : vy_8 code (768 + i) b)
theorem bv_33 {i : Nat} {b : UInt8} (h : ([0x2e, 0x2d, 0xb8, 0x00, 0xce, 0x36, 0x05, 0x2c, 0x2a, 0x15, 0x04, 0x04, 0x60, 0x2e, 0x2a, 0x15, 0x04, 0x05, 0x60, 0x2e, 0xb6, 0x00, 0xd1, 0x36] : List UInt8)[i]? = some b) : by8 code (792 + i) b := (vy_in (n := 24) (by decide +kernel) h : vy_8 code (792 + i) b)
theorem bv_34 {i : Nat} {b : UInt8} (h : ([0x06, 0xa7, 0x06, 0x03, 0x2b, 0xb6, 0x00, 0xd2, 0x57, 0x2c, 0xb6, 0x00, 0xd5, 0x57, 0xa7, 0x05, 0xf6, 0x2b, 0x2a, 0x15, 0x04, 0x04, 0x60, 0x2e] : List UInt8)[i]? = some b) : by8 code (816 + i) b := (vy_in (n := 24) (by decide +kernel) h : vy_8 code (816 + i) b)
theorem bv_35 {i : Nat} {b : UInt8} (h : ([0x2a, 0x15, 0x04, 0x05, 0x60, 0x2e, 0x2a, 0x15, 0x04, 0x06, 0x60, 0x2e, 0x99, 0x00, 0x07, 0x04, 0xa7, 0x00, 0x04, 0x03, 0x2d, 0xb8, 0x00, 0xd6] : List UInt8)[i]? = some b) : by8 code (840 + i) b := (vy_in (n := 24) (by decide +kernel) h : vy_8 code (840 + i) b)
theorem bv_36 {i : Nat} {b : UInt8} (h : ([0x36, 0x05, 0x2c, 0x2a, 0x15, 0x04, 0x04, 0x60, 0x2e, 0x2a, 0x15, 0x04, 0x05, 0x60, 0x2e, 0x2a, 0x15, 0x04, 0x06, 0x60, 0x2e, 0x99, 0x00, 0x07] : List UInt8)[i]? = some b) : by8 code (864 + i) b := (vy_in (n := 24) (by decide +kernel) h : vy_8 code (864 + i) b)
theorem bv_37 {i : Nat} {b : UInt8} (h : ([0x04, 0xa7, 0x00, 0x04, 0x03, 0xb6, 0x00, 0xd9, 0x36, 0x06, 0xa7, 0x05, 0xb2, 0x2b, 0x2a, 0x15, 0x04, 0x04, 0x60, 0x2e, 0x2a, 0x15, 0x04, 0x05] : List UInt8)[i]? = some b) : by8 code (888 + i) b := (vy_in (n := 24) (by decide +kernel) h : vy_8 code (888 + i) b)
theorem bv_38 {i : Nat} {b : UInt8} (h : ([0x60, 0x2e, 0x2d, 0xb8, 0x00, 0xda, 0x36, 0x05, 0x2c, 0x2a, 0x15, 0x04, 0x04, 0x60, 0x2e, 0x2a, 0x15, 0x04, 0x05, 0x60, 0x2e, 0xb6, 0x00, 0xdc] : List UInt8)[i]? = some b) : by8 code (912 + i) b := (vy_in (n := 24) (by decide +kernel) h : vy_8 code (912 + i) b)
theorem bv_39 {i : Nat} {b : UInt8} (h : ([0x36, 0x06, 0xa7, 0x05, 0x8a, 0x2b, 0x2a, 0x15, 0x04, 0x04, 0x60, 0x2e, 0x2a, 0x15, 0x04, 0x05, 0x60, 0x2e, 0x99, 0x00, 0x07, 0x04, 0xa7, 0x00] : List UInt8)[i]? = some b) : by8 code (936 + i) b := (vy_in (n := 24) (by decide +kernel) h : vy_8 code (936 + i) b)
theorem bv_40 {i : Nat} {b : UInt8} (h : ([0x04, 0x03, 0x2a, 0x15, 0x04, 0x06, 0x60, 0x2e, 0x2a, 0x15, 0x04, 0x07, 0x60, 0x2e, 0x2d, 0xb8, 0x00, 0xdd, 0x36, 0x05, 0x2c, 0x2a, 0x15, 0x04] : List UInt8)[i]? = some b) : by8 code (960 + i) b := (vy_in (n := 24) (by decide +kernel) h : vy_8 code (960 + i) b)
theorem bv_41 {i : Nat} {b : UInt8} (h : ([0x04, 0x60, 0x2e, 0x2a, 0x15, 0x04, 0x05, 0x60, 0x2e, 0x99, 0x00, 0x07, 0x04, 0xa7, 0x00, 0x04, 0x03, 0x2a, 0x15, 0x04, 0x06, 0x60, 0x2e, 0x2a] : List UInt8)[i]? = some b) : by8 code (984 + i) b := (vy_in (n := 24) (by decide +kernel) h : vy_8 code (984 + i) b)
theorem bv_42 {i : Nat} {b : UInt8} (h : ([0x15, 0x04, 0x07, 0x60, 0x2e, 0xb6, 0x00, 0xdf, 0x36, 0x06, 0xa7, 0x05, 0x3a, 0x2b, 0x2a, 0x15, 0x04, 0x04, 0x60, 0x2e, 0x2a, 0x15, 0x04, 0x05] : List UInt8)[i]? = some b) : by8 code (1008 + i) b := (vy_in (n := 24) (by decide +kernel) h : vy_8 code (1008 + i) b)
theorem bv_43 {i : Nat} {b : UInt8} (h : ([0x60, 0x2e, 0x99, 0x00, 0x07, 0x04, 0xa7, 0x00, 0x04, 0x03, 0x2a, 0x15, 0x04, 0x06, 0x60, 0x2e, 0x2d, 0xb8, 0x00, 0xe0, 0x36, 0x05, 0x2c, 0x2a] : List UInt8)[i]? = some b) : by8 code (1032 + i) b := (vy_in (n := 24) (by decide +kernel) h : vy_8 code (1032 + i) b)
theorem bv_44 {i : Nat} {b : UInt8} (h : ([0x15, 0x04, 0x04, 0x60, 0x2e, 0x2a, 0x15, 0x04, 0x05, 0x60, 0x2e, 0x99, 0x00, 0x07, 0x04, 0xa7, 0x00, 0x04, 0x03, 0x2a, 0x15, 0x04, 0x06, 0x60] : List UInt8)[i]? = some b) : by8 code (1056 + i) b := (vy_in (n := 24) (by decide +kernel) h : vy_8 code (1056 + i) b)
theorem bv_45 {i : Nat} {b : UInt8} (h : ([0x2e, 0xb6, 0x00, 0xe3, 0x36, 0x06, 0xa7, 0x04, 0xf6, 0x2b, 0x2a, 0x15, 0x04, 0x04, 0x60, 0x2e, 0x2d, 0xb8, 0x00, 0xe4, 0x36, 0x05, 0x2c, 0x2a] : List UInt8)[i]? = some b) : by8 code (1080 + i) b := (vy_in (n := 24) (by decide +kernel) h : vy_8 code (1080 + i) b)
theorem bv_46 {i : Nat} {b : UInt8} (h : ([0x15, 0x04, 0x04, 0x60, 0x2e, 0xb6, 0x00, 0xe6, 0x36, 0x06, 0xa7, 0x04, 0xda, 0x2b, 0x2a, 0x15, 0x04, 0x04, 0x60, 0x2e, 0x2d, 0xb8, 0x00, 0xe7] : List UInt8)[i]? = some b) : by8 code (1104 + i) b := (vy_in (n := 24) (by decide +kernel) h : vy_8 code (1104 + i) b)
theorem bv_47 {i : Nat} {b : UInt8} (h : ([0x36, 0x05, 0x2c, 0x2a, 0x15, 0x04, 0x04, 0x60, 0x2e, 0xb6, 0x00, 0xe9, 0x36, 0x06, 0xa7, 0x04, 0xbe, 0x2b, 0x2a, 0x15, 0x04, 0x04, 0x60, 0x2e] : List UInt8)[i]? = some b) : by8 code (1128 + i) b := (vy_in (n := 24) (by decide +kernel) h : vy_8 code (1128 + i) b)
theorem bv_48 {i : Nat} {b : UInt8} (h : ([0x99, 0x00, 0x07, 0x04, 0xa7, 0x00, 0x04, 0x03, 0xb6, 0x00, 0xea, 0x57, 0x2c, 0x2a, 0x15, 0x04, 0x04, 0x60, 0x2e, 0x99, 0x00, 0x07, 0x04, 0xa7] : List UInt8)[i]? = some b) : by8 code (1152 + i) b := (vy_in (n := 24) (by decide +kernel) h : vy_8 code (1152 + i) b)
theorem bv_49 {i : Nat} {b : UInt8} (h : ([0x00, 0x04, 0x03, 0xb6, 0x00, 0xee, 0x57, 0xa7, 0x04, 0x95, 0x2b, 0x2a, 0x15, 0x04, 0x04, 0x60, 0x2e, 0x99, 0x00, 0x07, 0x04, 0xa7, 0x00, 0x04] : List UInt8)[i]? = some b) : by8 code (1176 + i) b := (vy_in (n := 24) (by decide +kernel) h : vy_8 code (1176 + i) b)
theorem bv_50 {i : Nat} {b : UInt8} (h : ([0x03, 0xb6, 0x00, 0xef, 0x57, 0x2c, 0x2a, 0x15, 0x04, 0x04, 0x60, 0x2e, 0x99, 0x00, 0x07, 0x04, 0xa7, 0x00, 0x04, 0x03, 0xb6, 0x00, 0xf2, 0x57] : List UInt8)[i]? = some b) : by8 code (1200 + i) b := (vy_in (n := 24) (by decide +kernel) h : vy_8 code (1200 + i) b)
theorem bv_51 {i : Nat} {b : UInt8} (h : ([0xa7, 0x04, 0x6c, 0x2b, 0x2d, 0xb8, 0x00, 0xf3, 0x36, 0x05, 0x2c, 0xb6, 0x00, 0xf6, 0x36, 0x06, 0xa7, 0x04, 0x5c, 0x2b, 0x2d, 0xb8, 0x00, 0xf7] : List UInt8)[i]? = some b) : by8 code (1224 + i) b := (vy_in (n := 24) (by decide +kernel) h : vy_8 code (1224 + i) b)
theorem bv_52 {i : Nat} {b : UInt8} (h : ([0x36, 0x05, 0x2c, 0xb6, 0x00, 0xf9, 0x36, 0x06, 0xa7, 0x04, 0x4c, 0x2b, 0x2a, 0x15, 0x04, 0x04, 0x60, 0x2e, 0x2a, 0x15, 0x04, 0x05, 0x60, 0x2e] : List UInt8)[i]? = some b) : by8 code (1248 + i) b := (vy_in (n := 24) (by decide +kernel) h : vy_8 code (1248 + i) b)
theorem bv_53 {i : Nat} {b : UInt8} (h : ([0x2a, 0x15, 0x04, 0x06, 0x60, 0x2e, 0x2d, 0xb8, 0x00, 0xfa, 0x36, 0x05, 0x2c, 0x2a, 0x15, 0x04, 0x04, 0x60, 0x2e, 0x2a, 0x15, 0x04, 0x05, 0x60] : List UInt8)[i]? = some b) : by8 code (1272 + i) b := (vy_in (n := 24) (by decide +kernel) h : vy_8 code (1272 + i) b)
theorem bv_54 {i : Nat} {b : UInt8} (h : ([0x2e, 0x2a, 0x15, 0x04, 0x06, 0x60, 0x2e, 0xb6, 0x00, 0xfc, 0x36, 0x06, 0xa7, 0x04, 0x18, 0x2b, 0x2a, 0x15, 0x04, 0x04, 0x60, 0x2e, 0x2d, 0xb8] : List UInt8)[i]? = some b) : by8 code (1296 + i) b := (vy_in (n := 24) (by decide +kernel) h : vy_8 code (1296 + i) b)
theorem bv_55 {i : Nat} {b : UInt8} (h : ([0x00, 0xfd, 0x36, 0x05, 0x2c, 0x2a, 0x15, 0x04, 0x04, 0x60, 0x2e, 0xb6, 0x00, 0xff, 0x36, 0x06, 0xa7, 0x03, 0xfc, 0x2b, 0x2a, 0x15, 0x04, 0x04] : List UInt8)[i]? = some b) : by8 code (1320 + i) b := (vy_in (n := 24) (by decide +kernel) h : vy_8 code (1320 + i) b)
theorem bv_56 {i : Nat} {b : UInt8} (h : ([0x60, 0x2e, 0x2a, 0x15, 0x04, 0x05, 0x60, 0x2e, 0x2a, 0x15, 0x04, 0x06, 0x60, 0x2e, 0x2d, 0xb8, 0x01, 0x00, 0x36, 0x05, 0x2c, 0x2a, 0x15, 0x04] : List UInt8)[i]? = some b) : by8 code (1344 + i) b := (vy_in (n := 24) (by decide +kernel) h : vy_8 code (1344 + i) b)
theorem bv_57 {i : Nat} {b : UInt8} (h : ([0x04, 0x60, 0x2e, 0x2a, 0x15, 0x04, 0x05, 0x60, 0x2e, 0x2a, 0x15, 0x04, 0x06, 0x60, 0x2e, 0xb6, 0x01, 0x02, 0x36, 0x06, 0xa7, 0x03, 0xc8, 0x2b] : List UInt8)[i]? = some b) : by8 code (1368 + i) b := (vy_in (n := 24) (by decide +kernel) h : vy_8 code (1368 + i) b)
theorem bv_58 {i : Nat} {b : UInt8} (h : ([0x2a, 0x15, 0x04, 0x04, 0x60, 0x2e, 0x2d, 0xb8, 0x01, 0x03, 0x36, 0x05, 0x2c, 0x2a, 0x15, 0x04, 0x04, 0x60, 0x2e, 0xb6, 0x01, 0x05, 0x36, 0x06] : List UInt8)[i]? = some b) : by8 code (1392 + i) b := (vy_in (n := 24) (by decide +kernel) h : vy_8 code (1392 + i) b)
theorem bv_59 {i : Nat} {b : UInt8} (h : ([0xa7, 0x03, 0xac, 0x2b, 0x2a, 0x15, 0x04, 0x04, 0x60, 0x2e, 0x2a, 0x15, 0x04, 0x05, 0x60, 0x2e, 0x99, 0x00, 0x07, 0x04, 0xa7, 0x00, 0x04, 0x03] : List UInt8)[i]? = some b) : by8 code (1416 + i) b := (vy_in (n := 24) (by decide +kernel) h : vy_8 code (1416 + i) b)
theorem bv_60 {i : Nat} {b : UInt8} (h : ([0x2d, 0xb8, 0x01, 0x06, 0x36, 0x05, 0x2c, 0x2a, 0x15, 0x04, 0x04, 0x60, 0x2e, 0x2a, 0x15, 0x04, 0x05, 0x60, 0x2e, 0x99, 0x00, 0x07, 0x04, 0xa7] : List UInt8)[i]? = some b) : by8 code (1440 + i) b := (vy_in (n := 24) (by decide +kernel) h : vy_8 code (1440 + i) b)
theorem bv_61 {i : Nat} {b : UInt8} (h : ([0x00, 0x04, 0x03, 0xb6, 0x01, 0x08, 0x36, 0x06, 0xa7, 0x03, 0x74, 0x2b, 0x2a, 0x15, 0x04, 0x04, 0x60, 0x2e, 0x2d, 0xb8, 0x01, 0x09, 0x36, 0x05] : List UInt8)[i]? = some b) : by8 code (1464 + i) b := (vy_in (n := 24) (by decide +kernel) h : vy_8 code (1464 + i) b)
theorem bv_62 {i : Nat} {b : UInt8} (h : ([0x2c, 0x2a, 0x15, 0x04, 0x04, 0x60, 0x2e, 0xb6, 0x01, 0x0b, 0x36, 0x06, 0xa7, 0x03, 0x58, 0x2b, 0x2a, 0x15, 0x04, 0x04, 0x60, 0x2e, 0x2a, 0x15] : List UInt8)[i]? = some b) : by8 code (1488 + i) b := (vy_in (n := 24) (by decide +kernel) h : vy_8 code (1488 + i) b)
theorem bv_63 {i : Nat} {b : UInt8} (h : ([0x04, 0x05, 0x60, 0x2e, 0x2d, 0xb8, 0x01, 0x0c, 0x36, 0x05, 0x2c, 0x2a, 0x15, 0x04, 0x04, 0x60, 0x2e, 0x2a, 0x15, 0x04, 0x05, 0x60, 0x2e, 0xb6] : List UInt8)[i]? = some b) : by8 code (1512 + i) b := (vy_in (n := 24) (by decide +kernel) h : vy_8 code (1512 + i) b)
theorem bv_64 {i : Nat} {b : UInt8} (h : ([0x01, 0x0e, 0x36, 0x06, 0xa7, 0x03, 0x30, 0x2b, 0x2a, 0x15, 0x04, 0x04, 0x60, 0x2e, 0x2a, 0x15, 0x04, 0x05, 0x60, 0x2e, 0x2d, 0xb8, 0x01, 0x0f] : List UInt8)[i]? = some b) : by8 code (1536 + i) b := (vy_in (n := 24) (by decide +kernel) h : vy_8 code (1536 + i) b)
theorem bv_65 {i : Nat} {b : UInt8} (h : ([0x36, 0x05, 0x2c, 0x2a, 0x15, 0x04, 0x04, 0x60, 0x2e, 0x2a, 0x15, 0x04, 0x05, 0x60, 0x2e, 0xb6, 0x01, 0x11, 0x36, 0x06, 0xa7, 0x03, 0x08, 0x2b] : List UInt8)[i]? = some b) : by8 code (1560 + i) b := (vy_in (n := 24) (by decide +kernel) h : vy_8 code (1560 + i) b)
theorem bv_66 {i : Nat} {b : UInt8} (h : ([0x2a, 0x15, 0x04, 0x04, 0x60, 0x2e, 0x2d, 0xb8, 0x01, 0x12, 0x36, 0x05, 0x2c, 0x2a, 0x15, 0x04, 0x04, 0x60, 0x2e, 0xb6, 0x01, 0x14, 0x36, 0x06] : List UInt8)[i]? = some b) : by8 code (1584 + i) b := (vy_in (n := 24) (by decide +kernel) h : vy_8 code (1584 + i) b)
theorem bv_67 {i : Nat} {b : UInt8} (h : ([0xa7, 0x02, 0xec, 0x2b, 0x2a, 0x15, 0x04, 0x04, 0x60, 0x2e, 0x2d, 0xb8, 0x01, 0x15, 0x36, 0x05, 0x2c, 0x2a, 0x15, 0x04, 0x04, 0x60, 0x2e, 0xb6] : List UInt8)[i]? = some b) : by8 code (1608 + i) b := (vy_in (n := 24) (by decide +kernel) h : vy_8 code (1608 + i) b)
theorem bv_68 {i : Nat} {b : UInt8} (h : ([0x01, 0x17, 0x36, 0x06, 0xa7, 0x02, 0xd0, 0x2b, 0x2a, 0x15, 0x04, 0x04, 0x60, 0x2e, 0x2d, 0xb8, 0x01, 0x18, 0x36, 0x05, 0x2c, 0x2a, 0x15, 0x04] : List UInt8)[i]? = some b) : by8 code (1632 + i) b := (vy_in (n := 24) (by decide +kernel) h : vy_8 code (1632 + i) b)
theorem bv_69 {i : Nat} {b : UInt8} (h : ([0x04, 0x60, 0x2e, 0xb6, 0x01, 0x1a, 0x36, 0x06, 0xa7, 0x02, 0xb4, 0x2b, 0x2a, 0x15, 0x04, 0x04, 0x60, 0x2e, 0x2a, 0x15, 0x04, 0x05, 0x60, 0x2e] : List UInt8)[i]? = some b) : by8 code (1656 + i) b := (vy_in (n := 24) (by decide +kernel) h : vy_8 code (1656 + i) b)
theorem bv_70 {i : Nat} {b : UInt8} (h : ([0x2a, 0x15, 0x04, 0x06, 0x60, 0x2e, 0x2d, 0xb8, 0x01, 0x1b, 0x36, 0x05, 0x2c, 0x2a, 0x15, 0x04, 0x04, 0x60, 0x2e, 0x2a, 0x15, 0x04, 0x05, 0x60] : List UInt8)[i]? = some b) : by8 code (1680 + i) b := (vy_in (n := 24) (by decide +kernel) h : vy_8 code (1680 + i) b)
theorem bv_71 {i : Nat} {b : UInt8} (h : ([0x2e, 0x2a, 0x15, 0x04, 0x06, 0x60, 0x2e, 0xb6, 0x01, 0x1d, 0x36, 0x06, 0xa7, 0x02, 0x80, 0x2b, 0x2a, 0x15, 0x04, 0x04, 0x60, 0x2e, 0x2a, 0x15] : List UInt8)[i]? = some b) : by8 code (1704 + i) b := (vy_in (n := 24) (by decide +kernel) h : vy_8 code (1704 + i) b)
theorem bv_72 {i : Nat} {b : UInt8} (h : ([0x04, 0x05, 0x60, 0x2e, 0x2a, 0x15, 0x04, 0x06, 0x60, 0x2e, 0x2d, 0xb8, 0x01, 0x1e, 0x36, 0x05, 0x2c, 0x2a, 0x15, 0x04, 0x04, 0x60, 0x2e, 0x2a] : List UInt8)[i]? = some b) : by8 code (1728 + i) b := (vy_in (n := 24) (by decide +kernel) h : vy_8 code (1728 + i) b)
theorem bv_73 {i : Nat} {b : UInt8} (h : ([0x15, 0x04, 0x05, 0x60, 0x2e, 0x2a, 0x15, 0x04, 0x06, 0x60, 0x2e, 0xb6, 0x01, 0x20, 0x36, 0x06, 0xa7, 0x02, 0x4c, 0x2b, 0x2a, 0x15, 0x04, 0x04] : List UInt8)[i]? = some b) : by8 code (1752 + i) b := (vy_in (n := 24) (by decide +kernel) h : vy_8 code (1752 + i) b)
theorem bv_74 {i : Nat} {b : UInt8} (h : ([0x60, 0x2e, 0x2a, 0x15, 0x04, 0x05, 0x60, 0x2e, 0x2d, 0xb8, 0x01, 0x21, 0x36, 0x05, 0x2c, 0x2a, 0x15, 0x04, 0x04, 0x60, 0x2e, 0x2a, 0x15, 0x04] : List UInt8)[i]? = some b) : by8 code (1776 + i) b := (vy_in (n := 24) (by decide +kernel) h : vy_8 code (1776 + i) b)
theorem bv_75 {i : Nat} {b : UInt8} (h : ([0x05, 0x60, 0x2e, 0xb6, 0x01, 0x23, 0x36, 0x06, 0xa7, 0x02, 0x24, 0x2b, 0x2a, 0x15, 0x04, 0x04, 0x60, 0x2e, 0x2d, 0xb8, 0x01, 0x24, 0x36, 0x05] : List UInt8)[i]? = some b) : by8 code (1800 + i) b := (vy_in (n := 24) (by decide +kernel) h : vy_8 code (1800 + i) b)
theorem bv_76 {i : Nat} {b : UInt8} (h : ([0x2c, 0x2a, 0x15, 0x04, 0x04, 0x60, 0x2e, 0xb6, 0x01, 0x26, 0x36, 0x06, 0xa7, 0x02, 0x08, 0x2b, 0x2a, 0x15, 0x04, 0x04, 0x60, 0x2e, 0x2d, 0xb8] : List UInt8)[i]? = some b) : by8 code (1824 + i) b := (vy_in (n := 24) (by decide +kernel) h : vy_8 code (1824 + i) b)
theorem bv_77 {i : Nat} {b : UInt8} (h : ([0x01, 0x27, 0x36, 0x05, 0x2c, 0x2a, 0x15, 0x04, 0x04, 0x60, 0x2e, 0xb6, 0x01, 0x29, 0x36, 0x06, 0xa7, 0x01, 0xec, 0x2b, 0x2a, 0x15, 0x04, 0x04] : List UInt8)[i]? = some b) : by8 code (1848 + i) b := (vy_in (n := 24) (by decide +kernel) h : vy_8 code (1848 + i) b)
theorem bv_78 {i : Nat} {b : UInt8} (h : ([0x60, 0x2e, 0x2a, 0x15, 0x04, 0x05, 0x60, 0x2e, 0x99, 0x00, 0x07, 0x04, 0xa7, 0x00, 0x04, 0x03, 0x2d, 0xb8, 0x01, 0x2a, 0x36, 0x05, 0x2c, 0x2a] : List UInt8)[i]? = some b) : by8 code (1872 + i) b := (vy_in (n := 24) (by decide +kernel) h : vy_8 code (1872 + i) b)
theorem bv_79 {i : Nat} {b : UInt8} (h : ([0x15, 0x04, 0x04, 0x60, 0x2e, 0x2a, 0x15, 0x04, 0x05, 0x60, 0x2e, 0x99, 0x00, 0x07, 0x04, 0xa7, 0x00, 0x04, 0x03, 0xb6, 0x01, 0x2c, 0x36, 0x06] : List UInt8)[i]? = some b) : by8 code (1896 + i) b := (vy_in (n := 24) (by decide +kernel) h : vy_8 code (1896 + i) b)
theorem bv_80 {i : Nat} {b : UInt8} (h : ([0xa7, 0x01, 0xb4, 0x2b, 0x2a, 0x15, 0x04, 0x04, 0x60, 0x2e, 0x2a, 0x15, 0x04, 0x05, 0x60, 0x2e, 0x2d, 0xb8, 0x01, 0x2d, 0x36, 0x05, 0x2c, 0x2a] : List UInt8)[i]? = some b) : by8 code (1920 + i) b := (vy_in (n := 24) (by decide +kernel) h : vy_8 code (1920 + i) b)
theorem bv_81 {i : Nat} {b : UInt8} (h : ([0x15, 0x04, 0x04, 0x60, 0x2e, 0x2a, 0x15, 0x04, 0x05, 0x60, 0x2e, 0xb6, 0x01, 0x2f, 0x36, 0x06, 0xa7, 0x01, 0x8c, 0x2b, 0x2a, 0x15, 0x04, 0x04] : List UInt8)[i]? = some b) : by8 code (1944 + i) b := (vy_in (n := 24) (by decide +kernel) h : vy_8 code (1944 + i) b)
theorem bv_82 {i : Nat} {b : UInt8} (h : ([0x60, 0x2e, 0x2a, 0x15, 0x04, 0x05, 0x60, 0x2e, 0x2d, 0xb8, 0x01, 0x30, 0x36, 0x05, 0x2c, 0x2a, 0x15, 0x04, 0x04, 0x60, 0x2e, 0x2a, 0x15, 0x04] : List UInt8)[i]? = some b) : by8 code (1968 + i) b := (vy_in (n := 24) (by decide +kernel) h : vy_8 code (1968 + i) b)
theorem bv_83 {i : Nat} {b : UInt8} (h : ([0x05, 0x60, 0x2e, 0xb6, 0x01, 0x32, 0x36, 0x06, 0xa7, 0x01, 0x64, 0x2b, 0x2a, 0x15, 0x04, 0x04, 0x60, 0x2e, 0x2a, 0x15, 0x04, 0x05, 0x60, 0x2e] : List UInt8)[i]? = some b) : by8 code (1992 + i) b := (vy_in (n := 24) (by decide +kernel) h : vy_8 code (1992 + i) b)
theorem bv_84 {i : Nat} {b : UInt8} (h : ([0x2d, 0xb8, 0x01, 0x33, 0x36, 0x05, 0x2c, 0x2a, 0x15, 0x04, 0x04, 0x60, 0x2e, 0x2a, 0x15, 0x04, 0x05, 0x60, 0x2e, 0xb6, 0x01, 0x35, 0x36, 0x06] : List UInt8)[i]? = some b) : by8 code (2016 + i) b := (vy_in (n := 24) (by decide +kernel) h : vy_8 code (2016 + i) b)
theorem bv_85 {i : Nat} {b : UInt8} (h : ([0xa7, 0x01, 0x3c, 0x2b, 0x2a, 0x15, 0x04, 0x04, 0x60, 0x2e, 0x99, 0x00, 0x07, 0x04, 0xa7, 0x00, 0x04, 0x03, 0xb6, 0x01, 0x36, 0x57, 0x2c, 0x2a] : List UInt8)[i]? = some b) : by8 code (2040 + i) b := (vy_in (n := 24) (by decide +kernel) h : vy_8 code (2040 + i) b)
theorem bv_86 {i : Nat} {b : UInt8} (h : ([0x15, 0x04, 0x04, 0x60, 0x2e, 0x99, 0x00, 0x07, 0x04, 0xa7, 0x00, 0x04, 0x03, 0xb6, 0x01, 0x3a, 0x57, 0xa7, 0x01, 0x13, 0x2b, 0x2a, 0x15, 0x04] : List UInt8)[i]? = some b) : by8 code (2064 + i) b := (vy_in (n := 24) (by decide +kernel) h : vy_8 code (2064 + i) b)
theorem bv_87 {i : Nat} {b : UInt8} (h : ([0x04, 0x60, 0x2e, 0x2a, 0x15, 0x04, 0x05, 0x60, 0x2e, 0x99, 0x00, 0x07, 0x04, 0xa7, 0x00, 0x04, 0x03, 0x2d, 0xb8, 0x01, 0x3b, 0x36, 0x05, 0x2c] : List UInt8)[i]? = some b) : by8 code (2088 + i) b := (vy_in (n := 24) (by decide +kernel) h : vy_8 code (2088 + i) b)
theorem bv_88 {i : Nat} {b : UInt8} (h : ([0x2a, 0x15, 0x04, 0x04, 0x60, 0x2e, 0x2a, 0x15, 0x04, 0x05, 0x60, 0x2e, 0x99, 0x00, 0x07, 0x04, 0xa7, 0x00, 0x04, 0x03, 0xb6, 0x01, 0x3d, 0x3a] : List UInt8)[i]? = some b) : by8 code (2112 + i) b := (vy_in (n := 24) (by decide +kernel) h : vy_8 code (2112 + i) b)
theorem bv_89 {i : Nat} {b : UInt8} (h : ([0x06, 0xa7, 0x00, 0xdb, 0x2b, 0x2a, 0x15, 0x04, 0x04, 0x60, 0x2e, 0x2d, 0xb8, 0x01, 0x3e, 0x36, 0x05, 0x2c, 0x2a, 0x15, 0x04, 0x04, 0x60, 0x2e] : List UInt8)[i]? = some b) : by8 code (2136 + i) b := (vy_in (n := 24) (by decide +kernel) h : vy_8 code (2136 + i) b)
theorem bv_90 {i : Nat} {b : UInt8} (h : ([0xb6, 0x01, 0x40, 0x36, 0x06, 0xa7, 0x00, 0xbf, 0x2b, 0x2a, 0x15, 0x04, 0x04, 0x60, 0x2e, 0x2a, 0x15, 0x04, 0x05, 0x60, 0x2e, 0x2a, 0x15, 0x04] : List UInt8)[i]? = some b) : by8 code (2160 + i) b := (vy_in (n := 24) (by decide +kernel) h : vy_8 code (2160 + i) b)
theorem bv_91 {i : Nat} {b : UInt8} (h : ([0x06, 0x60, 0x2e, 0x2d, 0xb8, 0x01, 0x41, 0x36, 0x05, 0x2c, 0x2a, 0x15, 0x04, 0x04, 0x60, 0x2e, 0x2a, 0x15, 0x04, 0x05, 0x60, 0x2e, 0x2a, 0x15] : List UInt8)[i]? = some b) : by8 code (2184 + i) b := (vy_in (n := 24) (by decide +kernel) h : vy_8 code (2184 + i) b)
theorem bv_92 {i : Nat} {b : UInt8} (h : ([0x04, 0x06, 0x60, 0x2e, 0xb6, 0x01, 0x43, 0x36, 0x06, 0xa7, 0x00, 0x8b, 0x2b, 0x2a, 0x15, 0x04, 0x04, 0x60, 0x2e, 0x2a, 0x15, 0x04, 0x05, 0x60] : List UInt8)[i]? = some b) : by8 code (2208 + i) b := (vy_in (n := 24) (by decide +kernel) h : vy_8 code (2208 + i) b)
theorem bv_93 {i : Nat} {b : UInt8} (h : ([0x2e, 0x2d, 0xb8, 0x01, 0x44, 0x36, 0x05, 0x2c, 0x2a, 0x15, 0x04, 0x04, 0x60, 0x2e, 0x2a, 0x15, 0x04, 0x05, 0x60, 0x2e, 0xb6, 0x01, 0x46, 0x36] : List UInt8)[i]? = some b) : by8 code (2232 + i) b := (vy_in (n := 24) (by decide +kernel) h : vy_8 code (2232 + i) b)
theorem bv_94 {i : Nat} {b : UInt8} (h : ([0x06, 0xa7, 0x00, 0x63, 0x2b, 0x2a, 0x15, 0x04, 0x04, 0x60, 0x2e, 0x2d, 0xb8, 0x01, 0x47, 0x36, 0x05, 0x2c, 0x2a, 0x15, 0x04, 0x04, 0x60, 0x2e] : List UInt8)[i]? = some b) : by8 code (2256 + i) b := (vy_in (n := 24) (by decide +kernel) h : vy_8 code (2256 + i) b)
theorem bv_95 {i : Nat} {b : UInt8} (h : ([0xb6, 0x01, 0x49, 0x36, 0x06, 0x2c, 0xb6, 0x01, 0x4a, 0x15, 0x05, 0x9f, 0x00, 0x05, 0x03, 0xac, 0x15, 0x05, 0x9a, 0x00, 0x10, 0x2d, 0xb4, 0x00] : List UInt8)[i]? = some b) : by8 code (2280 + i) b := (vy_in (n := 24) (by decide +kernel) h : vy_8 code (2280 + i) b)
theorem bv_96 {i : Nat} {b : UInt8} (h : ([0x0d, 0x15, 0x06, 0x85, 0x94, 0x99, 0x00, 0x05, 0x03, 0xac, 0xa7, 0x00, 0x2a, 0x2b, 0xb6, 0x01, 0x4d, 0x57, 0x2c, 0xb6, 0x01, 0x50, 0x57, 0xa7] : List UInt8)[i]? = some b) : by8 code (2304 + i) b := (vy_in (n := 24) (by decide +kernel) h : vy_8 code (2304 + i) b)
theorem bv_97 {i : Nat} {b : UInt8} (h : ([0x00, 0x1d, 0x2b, 0xb6, 0x01, 0x51, 0x57, 0x2c, 0xb6, 0x01, 0x55, 0x57, 0xa7, 0x00, 0x10, 0x2b, 0xb6, 0x01, 0x56, 0x58, 0x2c, 0xb6, 0x01, 0x5a] : List UInt8)[i]? = some b) : by8 code (2328 + i) b := (vy_in (n := 24) (by decide +kernel) h : vy_8 code (2328 + i) b)
theorem bv_98 {i : Nat} {b : UInt8} (h : ([0x58, 0xa7, 0x00, 0x03, 0x84, 0x04, 0x05, 0xa7, 0xf6, 0xe4, 0x04, 0xac] : List UInt8)[i]? = some b) : by8 code (2352 + i) b := (vy_in (n := 12) (by decide +kernel) h : vy_8 code (2352 + i) b)
theorem dW_0 : decode code 0 = .ok (.new 8, 3) := dec_187 (bv_0 (i := 0) rfl) (bv_0 (i := 1) rfl) (bv_0 (i := 2) rfl) rfl
theorem dW_3 : decode code 3 = .ok (.dup, 1) := dec_89 (bv_0 (i := 3) rfl)
theorem dW_4 : decode code 4 = .ok (.invokespecial 167, 3) := dec_183 (bv_0 (i := 4) rfl) (bv_0 (i := 5) rfl) (bv_0 (i := 6) rfl) rfl
theorem dW_7 : decode code 7 = .ok (.astore_n 1, 1) := dec_76 (bv_0 (i := 7) rfl)
theorem dW_8 : decode code 8 = .ok (.new 168, 3) := dec_187 (bv_0 (i := 8) rfl) (bv_0 (i := 9) rfl) (bv_0 (i := 10) rfl) rfl
theorem dW_11 : decode code 11 = .ok (.dup, 1) := dec_89 (bv_0 (i := 11) rfl)
theorem dW_12 : decode code 12 = .ok (.invokespecial 170, 3) := dec_183 (bv_0 (i := 12) rfl) (bv_0 (i := 13) rfl) (bv_0 (i := 14) rfl) rfl
theorem dW_15 : decode code 15 = .ok (.astore_n 2, 1) := dec_77 (bv_0 (i := 15) rfl)
theorem dW_16 : decode code 16 = .ok (.new 14, 3) := dec_187 (bv_0 (i := 16) rfl) (bv_0 (i := 17) rfl) (bv_0 (i := 18) rfl) rfl
theorem dW_19 : decode code 19 = .ok (.dup, 1) := dec_89 (bv_0 (i := 19) rfl)
theorem dW_20 : decode code 20 = .ok (.invokespecial 171, 3) := dec_183 (bv_0 (i := 20) rfl) (bv_0 (i := 21) rfl) (bv_0 (i := 22) rfl) rfl
theorem dW_23 : decode code 23 = .ok (.astore_n 3, 1) := dec_78 (bv_0 (i := 23) rfl)
theorem dW_24 : decode code 24 = .ok (.iconst 0, 1) := dec_3 (bv_1 (i := 0) rfl)
theorem dW_25 : decode code 25 = .ok (.istore 4, 2) := dec_54 (bv_1 (i := 1) rfl) (bv_1 (i := 2) rfl) rfl
theorem dW_27 : decode code 27 = .ok (.iload 4, 2) := dec_21 (bv_1 (i := 3) rfl) (bv_1 (i := 4) rfl) rfl
theorem dW_29 : decode code 29 = .ok (.aload_n 0, 1) := dec_42 (bv_1 (i := 5) rfl)
theorem dW_30 : decode code 30 = .ok (.arraylength, 1) := dec_190 (bv_1 (i := 6) rfl)
theorem dW_31 : decode code 31 = .ok (.iconst 5, 1) := dec_8 (bv_1 (i := 7) rfl)
theorem dW_32 : decode code 32 = .ok (.isub, 1) := dec_100 (bv_1 (i := 8) rfl)
theorem dW_33 : decode code 33 = .ok (.if_icmp .gt 2329, 3) := dec_163 (bv_1 (i := 9) rfl) (bv_1 (i := 10) rfl) (bv_1 (i := 11) rfl) (by decide +kernel)
theorem dW_36 : decode code 36 = .ok (.aload_n 0, 1) := dec_42 (bv_1 (i := 12) rfl)
theorem dW_37 : decode code 37 = .ok (.iload 4, 2) := dec_21 (bv_1 (i := 13) rfl) (bv_1 (i := 14) rfl) rfl
theorem dW_39 : decode code 39 = .ok (.iaload, 1) := dec_46 (bv_1 (i := 15) rfl)
theorem dW_40 : decode code 40 = .ok (.bipush 63, 2) := dec_16 (bv_1 (i := 16) rfl) (bv_1 (i := 17) rfl) (by decide +kernel)
theorem dW_42 : decode code 42 = .ok (.iand, 1) := dec_126 (bv_1 (i := 18) rfl)
theorem dW_43 : decode code 43 = .ok (.tableswitch 2313 0 49 #[213, 293, 373, 425, 477, 541, 597, 653, 681, 737, 777, 790, 858, 898, 978, 1046, 1074, 1102, 1143, 1184, 1200, 1216, 1268, 1296, 1348, 1376, 1432, 1460, 1500, 1540, 1568, 1596, 1624, 1676, 1728, 1768, 1796, 1824, 1880, 1920, 1960, 2000, 2041, 2097, 2125, 2177, 2217, 2274, 2287, 2300], 213) := by decide +kernel
theorem dW_256 : decode code 256 = .ok (.aload_n 1, 1) := dec_43 (bv_10 (i := 16) rfl)
theorem dW_257 : decode code 257 = .ok (.aload_n 0, 1) := dec_42 (bv_10 (i := 17) rfl)
theorem dW_258 : decode code 258 = .ok (.iload 4, 2) := dec_21 (bv_10 (i := 18) rfl) (bv_10 (i := 19) rfl) rfl
theorem dW_260 : decode code 260 = .ok (.iconst 1, 1) := dec_4 (bv_10 (i := 20) rfl)
theorem dW_261 : decode code 261 = .ok (.iadd, 1) := dec_96 (bv_10 (i := 21) rfl)
theorem dW_262 : decode code 262 = .ok (.iaload, 1) := dec_46 (bv_10 (i := 22) rfl)
theorem dW_263 : decode code 263 = .ok (.aload_n 0, 1) := dec_42 (bv_10 (i := 23) rfl)
theorem dW_264 : decode code 264 = .ok (.iload 4, 2) := dec_21 (bv_11 (i := 0) rfl) (bv_11 (i := 1) rfl) rfl
theorem dW_266 : decode code 266 = .ok (.iconst 2, 1) := dec_5 (bv_11 (i := 2) rfl)
theorem dW_267 : decode code 267 = .ok (.iadd, 1) := dec_96 (bv_11 (i := 3) rfl)
theorem dW_268 : decode code 268 = .ok (.iaload, 1) := dec_46 (bv_11 (i := 4) rfl)
theorem dW_269 : decode code 269 = .ok (.ifCond .eq 7, 3) := dec_153 (bv_11 (i := 5) rfl) (bv_11 (i := 6) rfl) (bv_11 (i := 7) rfl) (by decide +kernel)
theorem dW_272 : decode code 272 = .ok (.iconst 1, 1) := dec_4 (bv_11 (i := 8) rfl)
theorem dW_273 : decode code 273 = .ok (.goto 4, 3) := dec_167 (bv_11 (i := 9) rfl) (bv_11 (i := 10) rfl) (bv_11 (i := 11) rfl) (by decide +kernel)
theorem dW_276 : decode code 276 = .ok (.iconst 0, 1) := dec_3 (bv_11 (i := 12) rfl)
theorem dW_277 : decode code 277 = .ok (.aload_n 0, 1) := dec_42 (bv_11 (i := 13) rfl)
theorem dW_278 : decode code 278 = .ok (.iload 4, 2) := dec_21 (bv_11 (i := 14) rfl) (bv_11 (i := 15) rfl) rfl
theorem dW_280 : decode code 280 = .ok (.iconst 3, 1) := dec_6 (bv_11 (i := 16) rfl)
theorem dW_281 : decode code 281 = .ok (.iadd, 1) := dec_96 (bv_11 (i := 17) rfl)
theorem dW_282 : decode code 282 = .ok (.iaload, 1) := dec_46 (bv_11 (i := 18) rfl)
theorem dW_283 : decode code 283 = .ok (.aload_n 0, 1) := dec_42 (bv_11 (i := 19) rfl)
theorem dW_284 : decode code 284 = .ok (.iload 4, 2) := dec_21 (bv_11 (i := 20) rfl) (bv_11 (i := 21) rfl) rfl
theorem dW_286 : decode code 286 = .ok (.iconst 4, 1) := dec_7 (bv_11 (i := 22) rfl)
theorem dW_287 : decode code 287 = .ok (.iadd, 1) := dec_96 (bv_11 (i := 23) rfl)
theorem dW_288 : decode code 288 = .ok (.iaload, 1) := dec_46 (bv_12 (i := 0) rfl)
theorem dW_289 : decode code 289 = .ok (.aload_n 3, 1) := dec_45 (bv_12 (i := 1) rfl)
theorem dW_290 : decode code 290 = .ok (.invokestatic 172, 3) := dec_184 (bv_12 (i := 2) rfl) (bv_12 (i := 3) rfl) (bv_12 (i := 4) rfl) rfl
theorem dW_293 : decode code 293 = .ok (.istore 5, 2) := dec_54 (bv_12 (i := 5) rfl) (bv_12 (i := 6) rfl) rfl
theorem dW_295 : decode code 295 = .ok (.aload_n 2, 1) := dec_44 (bv_12 (i := 7) rfl)
theorem dW_296 : decode code 296 = .ok (.aload_n 0, 1) := dec_42 (bv_12 (i := 8) rfl)
theorem dW_297 : decode code 297 = .ok (.iload 4, 2) := dec_21 (bv_12 (i := 9) rfl) (bv_12 (i := 10) rfl) rfl
theorem dW_299 : decode code 299 = .ok (.iconst 1, 1) := dec_4 (bv_12 (i := 11) rfl)
theorem dW_300 : decode code 300 = .ok (.iadd, 1) := dec_96 (bv_12 (i := 12) rfl)
theorem dW_301 : decode code 301 = .ok (.iaload, 1) := dec_46 (bv_12 (i := 13) rfl)
theorem dW_302 : decode code 302 = .ok (.aload_n 0, 1) := dec_42 (bv_12 (i := 14) rfl)
theorem dW_303 : decode code 303 = .ok (.iload 4, 2) := dec_21 (bv_12 (i := 15) rfl) (bv_12 (i := 16) rfl) rfl
theorem dW_305 : decode code 305 = .ok (.iconst 2, 1) := dec_5 (bv_12 (i := 17) rfl)
theorem dW_306 : decode code 306 = .ok (.iadd, 1) := dec_96 (bv_12 (i := 18) rfl)
theorem dW_307 : decode code 307 = .ok (.iaload, 1) := dec_46 (bv_12 (i := 19) rfl)
theorem dW_308 : decode code 308 = .ok (.ifCond .eq 7, 3) := dec_153 (bv_12 (i := 20) rfl) (bv_12 (i := 21) rfl) (bv_12 (i := 22) rfl) (by decide +kernel)
theorem dW_311 : decode code 311 = .ok (.iconst 1, 1) := dec_4 (bv_12 (i := 23) rfl)
theorem dW_312 : decode code 312 = .ok (.goto 4, 3) := dec_167 (bv_13 (i := 0) rfl) (bv_13 (i := 1) rfl) (bv_13 (i := 2) rfl) (by decide +kernel)
theorem dW_315 : decode code 315 = .ok (.iconst 0, 1) := dec_3 (bv_13 (i := 3) rfl)
theorem dW_316 : decode code 316 = .ok (.aload_n 0, 1) := dec_42 (bv_13 (i := 4) rfl)
theorem dW_317 : decode code 317 = .ok (.iload 4, 2) := dec_21 (bv_13 (i := 5) rfl) (bv_13 (i := 6) rfl) rfl
theorem dW_319 : decode code 319 = .ok (.iconst 3, 1) := dec_6 (bv_13 (i := 7) rfl)
theorem dW_320 : decode code 320 = .ok (.iadd, 1) := dec_96 (bv_13 (i := 8) rfl)
theorem dW_321 : decode code 321 = .ok (.iaload, 1) := dec_46 (bv_13 (i := 9) rfl)
theorem dW_322 : decode code 322 = .ok (.aload_n 0, 1) := dec_42 (bv_13 (i := 10) rfl)
theorem dW_323 : decode code 323 = .ok (.iload 4, 2) := dec_21 (bv_13 (i := 11) rfl) (bv_13 (i := 12) rfl) rfl
theorem dW_325 : decode code 325 = .ok (.iconst 4, 1) := dec_7 (bv_13 (i := 13) rfl)
theorem dW_326 : decode code 326 = .ok (.iadd, 1) := dec_96 (bv_13 (i := 14) rfl)
theorem dW_327 : decode code 327 = .ok (.iaload, 1) := dec_46 (bv_13 (i := 15) rfl)
theorem dW_328 : decode code 328 = .ok (.invokevirtual 177, 3) := dec_182 (bv_13 (i := 16) rfl) (bv_13 (i := 17) rfl) (bv_13 (i := 18) rfl) rfl
theorem dW_331 : decode code 331 = .ok (.istore 6, 2) := dec_54 (bv_13 (i := 19) rfl) (bv_13 (i := 20) rfl) rfl
theorem dW_333 : decode code 333 = .ok (.goto 2023, 3) := dec_167 (bv_13 (i := 21) rfl) (bv_13 (i := 22) rfl) (bv_13 (i := 23) rfl) (by decide +kernel)
theorem dW_336 : decode code 336 = .ok (.aload_n 1, 1) := dec_43 (bv_14 (i := 0) rfl)
theorem dW_337 : decode code 337 = .ok (.aload_n 0, 1) := dec_42 (bv_14 (i := 1) rfl)
theorem dW_338 : decode code 338 = .ok (.iload 4, 2) := dec_21 (bv_14 (i := 2) rfl) (bv_14 (i := 3) rfl) rfl
theorem dW_340 : decode code 340 = .ok (.iconst 1, 1) := dec_4 (bv_14 (i := 4) rfl)
theorem dW_341 : decode code 341 = .ok (.iadd, 1) := dec_96 (bv_14 (i := 5) rfl)
theorem dW_342 : decode code 342 = .ok (.iaload, 1) := dec_46 (bv_14 (i := 6) rfl)
theorem dW_343 : decode code 343 = .ok (.aload_n 0, 1) := dec_42 (bv_14 (i := 7) rfl)
theorem dW_344 : decode code 344 = .ok (.iload 4, 2) := dec_21 (bv_14 (i := 8) rfl) (bv_14 (i := 9) rfl) rfl
theorem dW_346 : decode code 346 = .ok (.iconst 2, 1) := dec_5 (bv_14 (i := 10) rfl)
theorem dW_347 : decode code 347 = .ok (.iadd, 1) := dec_96 (bv_14 (i := 11) rfl)
theorem dW_348 : decode code 348 = .ok (.iaload, 1) := dec_46 (bv_14 (i := 12) rfl)
theorem dW_349 : decode code 349 = .ok (.ifCond .eq 7, 3) := dec_153 (bv_14 (i := 13) rfl) (bv_14 (i := 14) rfl) (bv_14 (i := 15) rfl) (by decide +kernel)
theorem dW_352 : decode code 352 = .ok (.iconst 1, 1) := dec_4 (bv_14 (i := 16) rfl)
theorem dW_353 : decode code 353 = .ok (.goto 4, 3) := dec_167 (bv_14 (i := 17) rfl) (bv_14 (i := 18) rfl) (bv_14 (i := 19) rfl) (by decide +kernel)
theorem dW_356 : decode code 356 = .ok (.iconst 0, 1) := dec_3 (bv_14 (i := 20) rfl)
theorem dW_357 : decode code 357 = .ok (.aload_n 0, 1) := dec_42 (bv_14 (i := 21) rfl)
theorem dW_358 : decode code 358 = .ok (.iload 4, 2) := dec_21 (bv_14 (i := 22) rfl) (bv_14 (i := 23) rfl) rfl
theorem dW_360 : decode code 360 = .ok (.iconst 3, 1) := dec_6 (bv_15 (i := 0) rfl)
theorem dW_361 : decode code 361 = .ok (.iadd, 1) := dec_96 (bv_15 (i := 1) rfl)
theorem dW_362 : decode code 362 = .ok (.iaload, 1) := dec_46 (bv_15 (i := 2) rfl)
theorem dW_363 : decode code 363 = .ok (.aload_n 0, 1) := dec_42 (bv_15 (i := 3) rfl)
theorem dW_364 : decode code 364 = .ok (.iload 4, 2) := dec_21 (bv_15 (i := 4) rfl) (bv_15 (i := 5) rfl) rfl
theorem dW_366 : decode code 366 = .ok (.iconst 4, 1) := dec_7 (bv_15 (i := 6) rfl)
theorem dW_367 : decode code 367 = .ok (.iadd, 1) := dec_96 (bv_15 (i := 7) rfl)
theorem dW_368 : decode code 368 = .ok (.iaload, 1) := dec_46 (bv_15 (i := 8) rfl)
theorem dW_369 : decode code 369 = .ok (.aload_n 3, 1) := dec_45 (bv_15 (i := 9) rfl)
theorem dW_370 : decode code 370 = .ok (.invokestatic 178, 3) := dec_184 (bv_15 (i := 10) rfl) (bv_15 (i := 11) rfl) (bv_15 (i := 12) rfl) rfl
theorem dW_373 : decode code 373 = .ok (.istore 5, 2) := dec_54 (bv_15 (i := 13) rfl) (bv_15 (i := 14) rfl) rfl
theorem dW_375 : decode code 375 = .ok (.aload_n 2, 1) := dec_44 (bv_15 (i := 15) rfl)
theorem dW_376 : decode code 376 = .ok (.aload_n 0, 1) := dec_42 (bv_15 (i := 16) rfl)
theorem dW_377 : decode code 377 = .ok (.iload 4, 2) := dec_21 (bv_15 (i := 17) rfl) (bv_15 (i := 18) rfl) rfl
theorem dW_379 : decode code 379 = .ok (.iconst 1, 1) := dec_4 (bv_15 (i := 19) rfl)
theorem dW_380 : decode code 380 = .ok (.iadd, 1) := dec_96 (bv_15 (i := 20) rfl)
theorem dW_381 : decode code 381 = .ok (.iaload, 1) := dec_46 (bv_15 (i := 21) rfl)
theorem dW_382 : decode code 382 = .ok (.aload_n 0, 1) := dec_42 (bv_15 (i := 22) rfl)
theorem dW_383 : decode code 383 = .ok (.iload 4, 2) := dec_21 (bv_15 (i := 23) rfl) (bv_16 (i := 0) rfl) rfl
theorem dW_385 : decode code 385 = .ok (.iconst 2, 1) := dec_5 (bv_16 (i := 1) rfl)
theorem dW_386 : decode code 386 = .ok (.iadd, 1) := dec_96 (bv_16 (i := 2) rfl)
theorem dW_387 : decode code 387 = .ok (.iaload, 1) := dec_46 (bv_16 (i := 3) rfl)
theorem dW_388 : decode code 388 = .ok (.ifCond .eq 7, 3) := dec_153 (bv_16 (i := 4) rfl) (bv_16 (i := 5) rfl) (bv_16 (i := 6) rfl) (by decide +kernel)
theorem dW_391 : decode code 391 = .ok (.iconst 1, 1) := dec_4 (bv_16 (i := 7) rfl)
theorem dW_392 : decode code 392 = .ok (.goto 4, 3) := dec_167 (bv_16 (i := 8) rfl) (bv_16 (i := 9) rfl) (bv_16 (i := 10) rfl) (by decide +kernel)
theorem dW_395 : decode code 395 = .ok (.iconst 0, 1) := dec_3 (bv_16 (i := 11) rfl)
theorem dW_396 : decode code 396 = .ok (.aload_n 0, 1) := dec_42 (bv_16 (i := 12) rfl)
theorem dW_397 : decode code 397 = .ok (.iload 4, 2) := dec_21 (bv_16 (i := 13) rfl) (bv_16 (i := 14) rfl) rfl
theorem dW_399 : decode code 399 = .ok (.iconst 3, 1) := dec_6 (bv_16 (i := 15) rfl)
theorem dW_400 : decode code 400 = .ok (.iadd, 1) := dec_96 (bv_16 (i := 16) rfl)
theorem dW_401 : decode code 401 = .ok (.iaload, 1) := dec_46 (bv_16 (i := 17) rfl)
theorem dW_402 : decode code 402 = .ok (.aload_n 0, 1) := dec_42 (bv_16 (i := 18) rfl)
theorem dW_403 : decode code 403 = .ok (.iload 4, 2) := dec_21 (bv_16 (i := 19) rfl) (bv_16 (i := 20) rfl) rfl
theorem dW_405 : decode code 405 = .ok (.iconst 4, 1) := dec_7 (bv_16 (i := 21) rfl)
theorem dW_406 : decode code 406 = .ok (.iadd, 1) := dec_96 (bv_16 (i := 22) rfl)
theorem dW_407 : decode code 407 = .ok (.iaload, 1) := dec_46 (bv_16 (i := 23) rfl)
theorem dW_408 : decode code 408 = .ok (.invokevirtual 180, 3) := dec_182 (bv_17 (i := 0) rfl) (bv_17 (i := 1) rfl) (bv_17 (i := 2) rfl) rfl
theorem dW_411 : decode code 411 = .ok (.istore 6, 2) := dec_54 (bv_17 (i := 3) rfl) (bv_17 (i := 4) rfl) rfl
theorem dW_413 : decode code 413 = .ok (.goto 1943, 3) := dec_167 (bv_17 (i := 5) rfl) (bv_17 (i := 6) rfl) (bv_17 (i := 7) rfl) (by decide +kernel)
theorem dW_416 : decode code 416 = .ok (.aload_n 1, 1) := dec_43 (bv_17 (i := 8) rfl)
theorem dW_417 : decode code 417 = .ok (.aload_n 0, 1) := dec_42 (bv_17 (i := 9) rfl)
theorem dW_418 : decode code 418 = .ok (.iload 4, 2) := dec_21 (bv_17 (i := 10) rfl) (bv_17 (i := 11) rfl) rfl
theorem dW_420 : decode code 420 = .ok (.iconst 1, 1) := dec_4 (bv_17 (i := 12) rfl)
theorem dW_421 : decode code 421 = .ok (.iadd, 1) := dec_96 (bv_17 (i := 13) rfl)
theorem dW_422 : decode code 422 = .ok (.iaload, 1) := dec_46 (bv_17 (i := 14) rfl)
theorem dW_423 : decode code 423 = .ok (.aload_n 0, 1) := dec_42 (bv_17 (i := 15) rfl)
theorem dW_424 : decode code 424 = .ok (.iload 4, 2) := dec_21 (bv_17 (i := 16) rfl) (bv_17 (i := 17) rfl) rfl
theorem dW_426 : decode code 426 = .ok (.iconst 2, 1) := dec_5 (bv_17 (i := 18) rfl)
theorem dW_427 : decode code 427 = .ok (.iadd, 1) := dec_96 (bv_17 (i := 19) rfl)
theorem dW_428 : decode code 428 = .ok (.iaload, 1) := dec_46 (bv_17 (i := 20) rfl)
theorem dW_429 : decode code 429 = .ok (.aload_n 0, 1) := dec_42 (bv_17 (i := 21) rfl)
theorem dW_430 : decode code 430 = .ok (.iload 4, 2) := dec_21 (bv_17 (i := 22) rfl) (bv_17 (i := 23) rfl) rfl
theorem dW_432 : decode code 432 = .ok (.iconst 3, 1) := dec_6 (bv_18 (i := 0) rfl)
theorem dW_433 : decode code 433 = .ok (.iadd, 1) := dec_96 (bv_18 (i := 1) rfl)
theorem dW_434 : decode code 434 = .ok (.iaload, 1) := dec_46 (bv_18 (i := 2) rfl)
theorem dW_435 : decode code 435 = .ok (.aload_n 3, 1) := dec_45 (bv_18 (i := 3) rfl)
theorem dW_436 : decode code 436 = .ok (.invokestatic 181, 3) := dec_184 (bv_18 (i := 4) rfl) (bv_18 (i := 5) rfl) (bv_18 (i := 6) rfl) rfl
theorem dW_439 : decode code 439 = .ok (.istore 5, 2) := dec_54 (bv_18 (i := 7) rfl) (bv_18 (i := 8) rfl) rfl
theorem dW_441 : decode code 441 = .ok (.aload_n 2, 1) := dec_44 (bv_18 (i := 9) rfl)
theorem dW_442 : decode code 442 = .ok (.aload_n 0, 1) := dec_42 (bv_18 (i := 10) rfl)
theorem dW_443 : decode code 443 = .ok (.iload 4, 2) := dec_21 (bv_18 (i := 11) rfl) (bv_18 (i := 12) rfl) rfl
theorem dW_445 : decode code 445 = .ok (.iconst 1, 1) := dec_4 (bv_18 (i := 13) rfl)
theorem dW_446 : decode code 446 = .ok (.iadd, 1) := dec_96 (bv_18 (i := 14) rfl)
theorem dW_447 : decode code 447 = .ok (.iaload, 1) := dec_46 (bv_18 (i := 15) rfl)
theorem dW_448 : decode code 448 = .ok (.aload_n 0, 1) := dec_42 (bv_18 (i := 16) rfl)
theorem dW_449 : decode code 449 = .ok (.iload 4, 2) := dec_21 (bv_18 (i := 17) rfl) (bv_18 (i := 18) rfl) rfl
theorem dW_451 : decode code 451 = .ok (.iconst 2, 1) := dec_5 (bv_18 (i := 19) rfl)
theorem dW_452 : decode code 452 = .ok (.iadd, 1) := dec_96 (bv_18 (i := 20) rfl)
theorem dW_453 : decode code 453 = .ok (.iaload, 1) := dec_46 (bv_18 (i := 21) rfl)
theorem dW_454 : decode code 454 = .ok (.aload_n 0, 1) := dec_42 (bv_18 (i := 22) rfl)
theorem dW_455 : decode code 455 = .ok (.iload 4, 2) := dec_21 (bv_18 (i := 23) rfl) (bv_19 (i := 0) rfl) rfl
theorem dW_457 : decode code 457 = .ok (.iconst 3, 1) := dec_6 (bv_19 (i := 1) rfl)
theorem dW_458 : decode code 458 = .ok (.iadd, 1) := dec_96 (bv_19 (i := 2) rfl)
theorem dW_459 : decode code 459 = .ok (.iaload, 1) := dec_46 (bv_19 (i := 3) rfl)
theorem dW_460 : decode code 460 = .ok (.invokevirtual 184, 3) := dec_182 (bv_19 (i := 4) rfl) (bv_19 (i := 5) rfl) (bv_19 (i := 6) rfl) rfl
theorem dW_463 : decode code 463 = .ok (.istore 6, 2) := dec_54 (bv_19 (i := 7) rfl) (bv_19 (i := 8) rfl) rfl
theorem dW_465 : decode code 465 = .ok (.goto 1891, 3) := dec_167 (bv_19 (i := 9) rfl) (bv_19 (i := 10) rfl) (bv_19 (i := 11) rfl) (by decide +kernel)
theorem dW_468 : decode code 468 = .ok (.aload_n 1, 1) := dec_43 (bv_19 (i := 12) rfl)
theorem dW_469 : decode code 469 = .ok (.aload_n 0, 1) := dec_42 (bv_19 (i := 13) rfl)
theorem dW_470 : decode code 470 = .ok (.iload 4, 2) := dec_21 (bv_19 (i := 14) rfl) (bv_19 (i := 15) rfl) rfl
theorem dW_472 : decode code 472 = .ok (.iconst 1, 1) := dec_4 (bv_19 (i := 16) rfl)
theorem dW_473 : decode code 473 = .ok (.iadd, 1) := dec_96 (bv_19 (i := 17) rfl)
theorem dW_474 : decode code 474 = .ok (.iaload, 1) := dec_46 (bv_19 (i := 18) rfl)
theorem dW_475 : decode code 475 = .ok (.aload_n 0, 1) := dec_42 (bv_19 (i := 19) rfl)
theorem dW_476 : decode code 476 = .ok (.iload 4, 2) := dec_21 (bv_19 (i := 20) rfl) (bv_19 (i := 21) rfl) rfl
theorem dW_478 : decode code 478 = .ok (.iconst 2, 1) := dec_5 (bv_19 (i := 22) rfl)
theorem dW_479 : decode code 479 = .ok (.iadd, 1) := dec_96 (bv_19 (i := 23) rfl)
theorem dW_480 : decode code 480 = .ok (.iaload, 1) := dec_46 (bv_20 (i := 0) rfl)
theorem dW_481 : decode code 481 = .ok (.aload_n 0, 1) := dec_42 (bv_20 (i := 1) rfl)
theorem dW_482 : decode code 482 = .ok (.iload 4, 2) := dec_21 (bv_20 (i := 2) rfl) (bv_20 (i := 3) rfl) rfl
theorem dW_484 : decode code 484 = .ok (.iconst 3, 1) := dec_6 (bv_20 (i := 4) rfl)
theorem dW_485 : decode code 485 = .ok (.iadd, 1) := dec_96 (bv_20 (i := 5) rfl)
theorem dW_486 : decode code 486 = .ok (.iaload, 1) := dec_46 (bv_20 (i := 6) rfl)
theorem dW_487 : decode code 487 = .ok (.aload_n 3, 1) := dec_45 (bv_20 (i := 7) rfl)
theorem dW_488 : decode code 488 = .ok (.invokestatic 185, 3) := dec_184 (bv_20 (i := 8) rfl) (bv_20 (i := 9) rfl) (bv_20 (i := 10) rfl) rfl
theorem dW_491 : decode code 491 = .ok (.istore 5, 2) := dec_54 (bv_20 (i := 11) rfl) (bv_20 (i := 12) rfl) rfl
theorem dW_493 : decode code 493 = .ok (.aload_n 2, 1) := dec_44 (bv_20 (i := 13) rfl)
theorem dW_494 : decode code 494 = .ok (.aload_n 0, 1) := dec_42 (bv_20 (i := 14) rfl)
theorem dW_495 : decode code 495 = .ok (.iload 4, 2) := dec_21 (bv_20 (i := 15) rfl) (bv_20 (i := 16) rfl) rfl
theorem dW_497 : decode code 497 = .ok (.iconst 1, 1) := dec_4 (bv_20 (i := 17) rfl)
theorem dW_498 : decode code 498 = .ok (.iadd, 1) := dec_96 (bv_20 (i := 18) rfl)
theorem dW_499 : decode code 499 = .ok (.iaload, 1) := dec_46 (bv_20 (i := 19) rfl)
theorem dW_500 : decode code 500 = .ok (.aload_n 0, 1) := dec_42 (bv_20 (i := 20) rfl)
theorem dW_501 : decode code 501 = .ok (.iload 4, 2) := dec_21 (bv_20 (i := 21) rfl) (bv_20 (i := 22) rfl) rfl
theorem dW_503 : decode code 503 = .ok (.iconst 2, 1) := dec_5 (bv_20 (i := 23) rfl)
theorem dW_504 : decode code 504 = .ok (.iadd, 1) := dec_96 (bv_21 (i := 0) rfl)
theorem dW_505 : decode code 505 = .ok (.iaload, 1) := dec_46 (bv_21 (i := 1) rfl)
theorem dW_506 : decode code 506 = .ok (.aload_n 0, 1) := dec_42 (bv_21 (i := 2) rfl)
theorem dW_507 : decode code 507 = .ok (.iload 4, 2) := dec_21 (bv_21 (i := 3) rfl) (bv_21 (i := 4) rfl) rfl
theorem dW_509 : decode code 509 = .ok (.iconst 3, 1) := dec_6 (bv_21 (i := 5) rfl)
theorem dW_510 : decode code 510 = .ok (.iadd, 1) := dec_96 (bv_21 (i := 6) rfl)
theorem dW_511 : decode code 511 = .ok (.iaload, 1) := dec_46 (bv_21 (i := 7) rfl)
theorem dW_512 : decode code 512 = .ok (.invokevirtual 187, 3) := dec_182 (bv_21 (i := 8) rfl) (bv_21 (i := 9) rfl) (bv_21 (i := 10) rfl) rfl
theorem dW_515 : decode code 515 = .ok (.istore 6, 2) := dec_54 (bv_21 (i := 11) rfl) (bv_21 (i := 12) rfl) rfl
theorem dW_517 : decode code 517 = .ok (.goto 1839, 3) := dec_167 (bv_21 (i := 13) rfl) (bv_21 (i := 14) rfl) (bv_21 (i := 15) rfl) (by decide +kernel)
theorem dW_520 : decode code 520 = .ok (.aload_n 1, 1) := dec_43 (bv_21 (i := 16) rfl)
theorem dW_521 : decode code 521 = .ok (.aload_n 0, 1) := dec_42 (bv_21 (i := 17) rfl)
theorem dW_522 : decode code 522 = .ok (.iload 4, 2) := dec_21 (bv_21 (i := 18) rfl) (bv_21 (i := 19) rfl) rfl
theorem dW_524 : decode code 524 = .ok (.iconst 1, 1) := dec_4 (bv_21 (i := 20) rfl)
theorem dW_525 : decode code 525 = .ok (.iadd, 1) := dec_96 (bv_21 (i := 21) rfl)
theorem dW_526 : decode code 526 = .ok (.iaload, 1) := dec_46 (bv_21 (i := 22) rfl)
theorem dW_527 : decode code 527 = .ok (.aload_n 0, 1) := dec_42 (bv_21 (i := 23) rfl)
theorem dW_528 : decode code 528 = .ok (.iload 4, 2) := dec_21 (bv_22 (i := 0) rfl) (bv_22 (i := 1) rfl) rfl
theorem dW_530 : decode code 530 = .ok (.iconst 2, 1) := dec_5 (bv_22 (i := 2) rfl)
theorem dW_531 : decode code 531 = .ok (.iadd, 1) := dec_96 (bv_22 (i := 3) rfl)
theorem dW_532 : decode code 532 = .ok (.iaload, 1) := dec_46 (bv_22 (i := 4) rfl)
theorem dW_533 : decode code 533 = .ok (.aload_n 0, 1) := dec_42 (bv_22 (i := 5) rfl)
theorem dW_534 : decode code 534 = .ok (.iload 4, 2) := dec_21 (bv_22 (i := 6) rfl) (bv_22 (i := 7) rfl) rfl
theorem dW_536 : decode code 536 = .ok (.iconst 3, 1) := dec_6 (bv_22 (i := 8) rfl)
theorem dW_537 : decode code 537 = .ok (.iadd, 1) := dec_96 (bv_22 (i := 9) rfl)
theorem dW_538 : decode code 538 = .ok (.iaload, 1) := dec_46 (bv_22 (i := 10) rfl)
theorem dW_539 : decode code 539 = .ok (.aload_n 0, 1) := dec_42 (bv_22 (i := 11) rfl)
theorem dW_540 : decode code 540 = .ok (.iload 4, 2) := dec_21 (bv_22 (i := 12) rfl) (bv_22 (i := 13) rfl) rfl
theorem dW_542 : decode code 542 = .ok (.iconst 4, 1) := dec_7 (bv_22 (i := 14) rfl)
theorem dW_543 : decode code 543 = .ok (.iadd, 1) := dec_96 (bv_22 (i := 15) rfl)
theorem dW_544 : decode code 544 = .ok (.iaload, 1) := dec_46 (bv_22 (i := 16) rfl)
theorem dW_545 : decode code 545 = .ok (.aload_n 3, 1) := dec_45 (bv_22 (i := 17) rfl)
theorem dW_546 : decode code 546 = .ok (.invokestatic 188, 3) := dec_184 (bv_22 (i := 18) rfl) (bv_22 (i := 19) rfl) (bv_22 (i := 20) rfl) rfl
theorem dW_549 : decode code 549 = .ok (.istore 5, 2) := dec_54 (bv_22 (i := 21) rfl) (bv_22 (i := 22) rfl) rfl
theorem dW_551 : decode code 551 = .ok (.aload_n 2, 1) := dec_44 (bv_22 (i := 23) rfl)
theorem dW_552 : decode code 552 = .ok (.aload_n 0, 1) := dec_42 (bv_23 (i := 0) rfl)
theorem dW_553 : decode code 553 = .ok (.iload 4, 2) := dec_21 (bv_23 (i := 1) rfl) (bv_23 (i := 2) rfl) rfl
theorem dW_555 : decode code 555 = .ok (.iconst 1, 1) := dec_4 (bv_23 (i := 3) rfl)
theorem dW_556 : decode code 556 = .ok (.iadd, 1) := dec_96 (bv_23 (i := 4) rfl)
theorem dW_557 : decode code 557 = .ok (.iaload, 1) := dec_46 (bv_23 (i := 5) rfl)
theorem dW_558 : decode code 558 = .ok (.aload_n 0, 1) := dec_42 (bv_23 (i := 6) rfl)
theorem dW_559 : decode code 559 = .ok (.iload 4, 2) := dec_21 (bv_23 (i := 7) rfl) (bv_23 (i := 8) rfl) rfl
theorem dW_561 : decode code 561 = .ok (.iconst 2, 1) := dec_5 (bv_23 (i := 9) rfl)
theorem dW_562 : decode code 562 = .ok (.iadd, 1) := dec_96 (bv_23 (i := 10) rfl)
theorem dW_563 : decode code 563 = .ok (.iaload, 1) := dec_46 (bv_23 (i := 11) rfl)
theorem dW_564 : decode code 564 = .ok (.aload_n 0, 1) := dec_42 (bv_23 (i := 12) rfl)
theorem dW_565 : decode code 565 = .ok (.iload 4, 2) := dec_21 (bv_23 (i := 13) rfl) (bv_23 (i := 14) rfl) rfl
theorem dW_567 : decode code 567 = .ok (.iconst 3, 1) := dec_6 (bv_23 (i := 15) rfl)
theorem dW_568 : decode code 568 = .ok (.iadd, 1) := dec_96 (bv_23 (i := 16) rfl)
theorem dW_569 : decode code 569 = .ok (.iaload, 1) := dec_46 (bv_23 (i := 17) rfl)
theorem dW_570 : decode code 570 = .ok (.aload_n 0, 1) := dec_42 (bv_23 (i := 18) rfl)
theorem dW_571 : decode code 571 = .ok (.iload 4, 2) := dec_21 (bv_23 (i := 19) rfl) (bv_23 (i := 20) rfl) rfl
theorem dW_573 : decode code 573 = .ok (.iconst 4, 1) := dec_7 (bv_23 (i := 21) rfl)
theorem dW_574 : decode code 574 = .ok (.iadd, 1) := dec_96 (bv_23 (i := 22) rfl)
theorem dW_575 : decode code 575 = .ok (.iaload, 1) := dec_46 (bv_23 (i := 23) rfl)
theorem dW_576 : decode code 576 = .ok (.invokevirtual 191, 3) := dec_182 (bv_24 (i := 0) rfl) (bv_24 (i := 1) rfl) (bv_24 (i := 2) rfl) rfl
theorem dW_579 : decode code 579 = .ok (.istore 6, 2) := dec_54 (bv_24 (i := 3) rfl) (bv_24 (i := 4) rfl) rfl
theorem dW_581 : decode code 581 = .ok (.goto 1775, 3) := dec_167 (bv_24 (i := 5) rfl) (bv_24 (i := 6) rfl) (bv_24 (i := 7) rfl) (by decide +kernel)
theorem dW_584 : decode code 584 = .ok (.aload_n 1, 1) := dec_43 (bv_24 (i := 8) rfl)
theorem dW_585 : decode code 585 = .ok (.aload_n 0, 1) := dec_42 (bv_24 (i := 9) rfl)
theorem dW_586 : decode code 586 = .ok (.iload 4, 2) := dec_21 (bv_24 (i := 10) rfl) (bv_24 (i := 11) rfl) rfl
theorem dW_588 : decode code 588 = .ok (.iconst 1, 1) := dec_4 (bv_24 (i := 12) rfl)
theorem dW_589 : decode code 589 = .ok (.iadd, 1) := dec_96 (bv_24 (i := 13) rfl)
theorem dW_590 : decode code 590 = .ok (.iaload, 1) := dec_46 (bv_24 (i := 14) rfl)
theorem dW_591 : decode code 591 = .ok (.aload_n 0, 1) := dec_42 (bv_24 (i := 15) rfl)
theorem dW_592 : decode code 592 = .ok (.iload 4, 2) := dec_21 (bv_24 (i := 16) rfl) (bv_24 (i := 17) rfl) rfl
theorem dW_594 : decode code 594 = .ok (.iconst 2, 1) := dec_5 (bv_24 (i := 18) rfl)
theorem dW_595 : decode code 595 = .ok (.iadd, 1) := dec_96 (bv_24 (i := 19) rfl)
theorem dW_596 : decode code 596 = .ok (.iaload, 1) := dec_46 (bv_24 (i := 20) rfl)
theorem dW_597 : decode code 597 = .ok (.ifCond .eq 7, 3) := dec_153 (bv_24 (i := 21) rfl) (bv_24 (i := 22) rfl) (bv_24 (i := 23) rfl) (by decide +kernel)
theorem dW_600 : decode code 600 = .ok (.iconst 1, 1) := dec_4 (bv_25 (i := 0) rfl)
theorem dW_601 : decode code 601 = .ok (.goto 4, 3) := dec_167 (bv_25 (i := 1) rfl) (bv_25 (i := 2) rfl) (bv_25 (i := 3) rfl) (by decide +kernel)
theorem dW_604 : decode code 604 = .ok (.iconst 0, 1) := dec_3 (bv_25 (i := 4) rfl)
theorem dW_605 : decode code 605 = .ok (.aload_n 3, 1) := dec_45 (bv_25 (i := 5) rfl)
theorem dW_606 : decode code 606 = .ok (.invokestatic 192, 3) := dec_184 (bv_25 (i := 6) rfl) (bv_25 (i := 7) rfl) (bv_25 (i := 8) rfl) rfl
theorem dW_609 : decode code 609 = .ok (.istore 5, 2) := dec_54 (bv_25 (i := 9) rfl) (bv_25 (i := 10) rfl) rfl
theorem dW_611 : decode code 611 = .ok (.aload_n 2, 1) := dec_44 (bv_25 (i := 11) rfl)
theorem dW_612 : decode code 612 = .ok (.aload_n 0, 1) := dec_42 (bv_25 (i := 12) rfl)
theorem dW_613 : decode code 613 = .ok (.iload 4, 2) := dec_21 (bv_25 (i := 13) rfl) (bv_25 (i := 14) rfl) rfl
theorem dW_615 : decode code 615 = .ok (.iconst 1, 1) := dec_4 (bv_25 (i := 15) rfl)
theorem dW_616 : decode code 616 = .ok (.iadd, 1) := dec_96 (bv_25 (i := 16) rfl)
theorem dW_617 : decode code 617 = .ok (.iaload, 1) := dec_46 (bv_25 (i := 17) rfl)
theorem dW_618 : decode code 618 = .ok (.aload_n 0, 1) := dec_42 (bv_25 (i := 18) rfl)
theorem dW_619 : decode code 619 = .ok (.iload 4, 2) := dec_21 (bv_25 (i := 19) rfl) (bv_25 (i := 20) rfl) rfl
theorem dW_621 : decode code 621 = .ok (.iconst 2, 1) := dec_5 (bv_25 (i := 21) rfl)
theorem dW_622 : decode code 622 = .ok (.iadd, 1) := dec_96 (bv_25 (i := 22) rfl)
theorem dW_623 : decode code 623 = .ok (.iaload, 1) := dec_46 (bv_25 (i := 23) rfl)
theorem dW_624 : decode code 624 = .ok (.ifCond .eq 7, 3) := dec_153 (bv_26 (i := 0) rfl) (bv_26 (i := 1) rfl) (bv_26 (i := 2) rfl) (by decide +kernel)
theorem dW_627 : decode code 627 = .ok (.iconst 1, 1) := dec_4 (bv_26 (i := 3) rfl)
theorem dW_628 : decode code 628 = .ok (.goto 4, 3) := dec_167 (bv_26 (i := 4) rfl) (bv_26 (i := 5) rfl) (bv_26 (i := 6) rfl) (by decide +kernel)
theorem dW_631 : decode code 631 = .ok (.iconst 0, 1) := dec_3 (bv_26 (i := 7) rfl)
theorem dW_632 : decode code 632 = .ok (.invokevirtual 195, 3) := dec_182 (bv_26 (i := 8) rfl) (bv_26 (i := 9) rfl) (bv_26 (i := 10) rfl) rfl
theorem dW_635 : decode code 635 = .ok (.istore 6, 2) := dec_54 (bv_26 (i := 11) rfl) (bv_26 (i := 12) rfl) rfl
theorem dW_637 : decode code 637 = .ok (.goto 1719, 3) := dec_167 (bv_26 (i := 13) rfl) (bv_26 (i := 14) rfl) (bv_26 (i := 15) rfl) (by decide +kernel)
theorem dW_640 : decode code 640 = .ok (.aload_n 1, 1) := dec_43 (bv_26 (i := 16) rfl)
theorem dW_641 : decode code 641 = .ok (.aload_n 0, 1) := dec_42 (bv_26 (i := 17) rfl)
theorem dW_642 : decode code 642 = .ok (.iload 4, 2) := dec_21 (bv_26 (i := 18) rfl) (bv_26 (i := 19) rfl) rfl
theorem dW_644 : decode code 644 = .ok (.iconst 1, 1) := dec_4 (bv_26 (i := 20) rfl)
theorem dW_645 : decode code 645 = .ok (.iadd, 1) := dec_96 (bv_26 (i := 21) rfl)
theorem dW_646 : decode code 646 = .ok (.iaload, 1) := dec_46 (bv_26 (i := 22) rfl)
theorem dW_647 : decode code 647 = .ok (.aload_n 0, 1) := dec_42 (bv_26 (i := 23) rfl)
theorem dW_648 : decode code 648 = .ok (.iload 4, 2) := dec_21 (bv_27 (i := 0) rfl) (bv_27 (i := 1) rfl) rfl
theorem dW_650 : decode code 650 = .ok (.iconst 2, 1) := dec_5 (bv_27 (i := 2) rfl)
theorem dW_651 : decode code 651 = .ok (.iadd, 1) := dec_96 (bv_27 (i := 3) rfl)
theorem dW_652 : decode code 652 = .ok (.iaload, 1) := dec_46 (bv_27 (i := 4) rfl)
theorem dW_653 : decode code 653 = .ok (.ifCond .eq 7, 3) := dec_153 (bv_27 (i := 5) rfl) (bv_27 (i := 6) rfl) (bv_27 (i := 7) rfl) (by decide +kernel)
theorem dW_656 : decode code 656 = .ok (.iconst 1, 1) := dec_4 (bv_27 (i := 8) rfl)
theorem dW_657 : decode code 657 = .ok (.goto 4, 3) := dec_167 (bv_27 (i := 9) rfl) (bv_27 (i := 10) rfl) (bv_27 (i := 11) rfl) (by decide +kernel)
theorem dW_660 : decode code 660 = .ok (.iconst 0, 1) := dec_3 (bv_27 (i := 12) rfl)
theorem dW_661 : decode code 661 = .ok (.aload_n 3, 1) := dec_45 (bv_27 (i := 13) rfl)
theorem dW_662 : decode code 662 = .ok (.invokestatic 196, 3) := dec_184 (bv_27 (i := 14) rfl) (bv_27 (i := 15) rfl) (bv_27 (i := 16) rfl) rfl
theorem dW_665 : decode code 665 = .ok (.istore 5, 2) := dec_54 (bv_27 (i := 17) rfl) (bv_27 (i := 18) rfl) rfl
theorem dW_667 : decode code 667 = .ok (.aload_n 2, 1) := dec_44 (bv_27 (i := 19) rfl)
theorem dW_668 : decode code 668 = .ok (.aload_n 0, 1) := dec_42 (bv_27 (i := 20) rfl)
theorem dW_669 : decode code 669 = .ok (.iload 4, 2) := dec_21 (bv_27 (i := 21) rfl) (bv_27 (i := 22) rfl) rfl
theorem dW_671 : decode code 671 = .ok (.iconst 1, 1) := dec_4 (bv_27 (i := 23) rfl)
theorem dW_672 : decode code 672 = .ok (.iadd, 1) := dec_96 (bv_28 (i := 0) rfl)
theorem dW_673 : decode code 673 = .ok (.iaload, 1) := dec_46 (bv_28 (i := 1) rfl)
theorem dW_674 : decode code 674 = .ok (.aload_n 0, 1) := dec_42 (bv_28 (i := 2) rfl)
theorem dW_675 : decode code 675 = .ok (.iload 4, 2) := dec_21 (bv_28 (i := 3) rfl) (bv_28 (i := 4) rfl) rfl
theorem dW_677 : decode code 677 = .ok (.iconst 2, 1) := dec_5 (bv_28 (i := 5) rfl)
theorem dW_678 : decode code 678 = .ok (.iadd, 1) := dec_96 (bv_28 (i := 6) rfl)
theorem dW_679 : decode code 679 = .ok (.iaload, 1) := dec_46 (bv_28 (i := 7) rfl)
theorem dW_680 : decode code 680 = .ok (.ifCond .eq 7, 3) := dec_153 (bv_28 (i := 8) rfl) (bv_28 (i := 9) rfl) (bv_28 (i := 10) rfl) (by decide +kernel)
theorem dW_683 : decode code 683 = .ok (.iconst 1, 1) := dec_4 (bv_28 (i := 11) rfl)
theorem dW_684 : decode code 684 = .ok (.goto 4, 3) := dec_167 (bv_28 (i := 12) rfl) (bv_28 (i := 13) rfl) (bv_28 (i := 14) rfl) (by decide +kernel)
theorem dW_687 : decode code 687 = .ok (.iconst 0, 1) := dec_3 (bv_28 (i := 15) rfl)
theorem dW_688 : decode code 688 = .ok (.invokevirtual 198, 3) := dec_182 (bv_28 (i := 16) rfl) (bv_28 (i := 17) rfl) (bv_28 (i := 18) rfl) rfl
theorem dW_691 : decode code 691 = .ok (.istore 6, 2) := dec_54 (bv_28 (i := 19) rfl) (bv_28 (i := 20) rfl) rfl
theorem dW_693 : decode code 693 = .ok (.goto 1663, 3) := dec_167 (bv_28 (i := 21) rfl) (bv_28 (i := 22) rfl) (bv_28 (i := 23) rfl) (by decide +kernel)
theorem dW_696 : decode code 696 = .ok (.aload_n 1, 1) := dec_43 (bv_29 (i := 0) rfl)
theorem dW_697 : decode code 697 = .ok (.aload_n 0, 1) := dec_42 (bv_29 (i := 1) rfl)
theorem dW_698 : decode code 698 = .ok (.iload 4, 2) := dec_21 (bv_29 (i := 2) rfl) (bv_29 (i := 3) rfl) rfl
theorem dW_700 : decode code 700 = .ok (.iconst 1, 1) := dec_4 (bv_29 (i := 4) rfl)
theorem dW_701 : decode code 701 = .ok (.iadd, 1) := dec_96 (bv_29 (i := 5) rfl)
theorem dW_702 : decode code 702 = .ok (.iaload, 1) := dec_46 (bv_29 (i := 6) rfl)
theorem dW_703 : decode code 703 = .ok (.aload_n 3, 1) := dec_45 (bv_29 (i := 7) rfl)
theorem dW_704 : decode code 704 = .ok (.invokestatic 199, 3) := dec_184 (bv_29 (i := 8) rfl) (bv_29 (i := 9) rfl) (bv_29 (i := 10) rfl) rfl
theorem dW_707 : decode code 707 = .ok (.istore 5, 2) := dec_54 (bv_29 (i := 11) rfl) (bv_29 (i := 12) rfl) rfl
theorem dW_709 : decode code 709 = .ok (.aload_n 2, 1) := dec_44 (bv_29 (i := 13) rfl)
theorem dW_710 : decode code 710 = .ok (.aload_n 0, 1) := dec_42 (bv_29 (i := 14) rfl)
theorem dW_711 : decode code 711 = .ok (.iload 4, 2) := dec_21 (bv_29 (i := 15) rfl) (bv_29 (i := 16) rfl) rfl
theorem dW_713 : decode code 713 = .ok (.iconst 1, 1) := dec_4 (bv_29 (i := 17) rfl)
theorem dW_714 : decode code 714 = .ok (.iadd, 1) := dec_96 (bv_29 (i := 18) rfl)
theorem dW_715 : decode code 715 = .ok (.iaload, 1) := dec_46 (bv_29 (i := 19) rfl)
theorem dW_716 : decode code 716 = .ok (.invokevirtual 202, 3) := dec_182 (bv_29 (i := 20) rfl) (bv_29 (i := 21) rfl) (bv_29 (i := 22) rfl) rfl
theorem dW_719 : decode code 719 = .ok (.istore 6, 2) := dec_54 (bv_29 (i := 23) rfl) (bv_30 (i := 0) rfl) rfl
theorem dW_721 : decode code 721 = .ok (.goto 1635, 3) := dec_167 (bv_30 (i := 1) rfl) (bv_30 (i := 2) rfl) (bv_30 (i := 3) rfl) (by decide +kernel)
theorem dW_724 : decode code 724 = .ok (.aload_n 1, 1) := dec_43 (bv_30 (i := 4) rfl)
theorem dW_725 : decode code 725 = .ok (.aload_n 0, 1) := dec_42 (bv_30 (i := 5) rfl)
theorem dW_726 : decode code 726 = .ok (.iload 4, 2) := dec_21 (bv_30 (i := 6) rfl) (bv_30 (i := 7) rfl) rfl
theorem dW_728 : decode code 728 = .ok (.iconst 1, 1) := dec_4 (bv_30 (i := 8) rfl)
theorem dW_729 : decode code 729 = .ok (.iadd, 1) := dec_96 (bv_30 (i := 9) rfl)
theorem dW_730 : decode code 730 = .ok (.iaload, 1) := dec_46 (bv_30 (i := 10) rfl)
theorem dW_731 : decode code 731 = .ok (.aload_n 0, 1) := dec_42 (bv_30 (i := 11) rfl)
theorem dW_732 : decode code 732 = .ok (.iload 4, 2) := dec_21 (bv_30 (i := 12) rfl) (bv_30 (i := 13) rfl) rfl
theorem dW_734 : decode code 734 = .ok (.iconst 2, 1) := dec_5 (bv_30 (i := 14) rfl)
theorem dW_735 : decode code 735 = .ok (.iadd, 1) := dec_96 (bv_30 (i := 15) rfl)
theorem dW_736 : decode code 736 = .ok (.iaload, 1) := dec_46 (bv_30 (i := 16) rfl)
theorem dW_737 : decode code 737 = .ok (.ifCond .eq 7, 3) := dec_153 (bv_30 (i := 17) rfl) (bv_30 (i := 18) rfl) (bv_30 (i := 19) rfl) (by decide +kernel)
theorem dW_740 : decode code 740 = .ok (.iconst 1, 1) := dec_4 (bv_30 (i := 20) rfl)
theorem dW_741 : decode code 741 = .ok (.goto 4, 3) := dec_167 (bv_30 (i := 21) rfl) (bv_30 (i := 22) rfl) (bv_30 (i := 23) rfl) (by decide +kernel)
theorem dW_744 : decode code 744 = .ok (.iconst 0, 1) := dec_3 (bv_31 (i := 0) rfl)
theorem dW_745 : decode code 745 = .ok (.aload_n 3, 1) := dec_45 (bv_31 (i := 1) rfl)
theorem dW_746 : decode code 746 = .ok (.invokestatic 203, 3) := dec_184 (bv_31 (i := 2) rfl) (bv_31 (i := 3) rfl) (bv_31 (i := 4) rfl) rfl
theorem dW_749 : decode code 749 = .ok (.istore 5, 2) := dec_54 (bv_31 (i := 5) rfl) (bv_31 (i := 6) rfl) rfl
theorem dW_751 : decode code 751 = .ok (.aload_n 2, 1) := dec_44 (bv_31 (i := 7) rfl)
theorem dW_752 : decode code 752 = .ok (.aload_n 0, 1) := dec_42 (bv_31 (i := 8) rfl)
theorem dW_753 : decode code 753 = .ok (.iload 4, 2) := dec_21 (bv_31 (i := 9) rfl) (bv_31 (i := 10) rfl) rfl
theorem dW_755 : decode code 755 = .ok (.iconst 1, 1) := dec_4 (bv_31 (i := 11) rfl)
theorem dW_756 : decode code 756 = .ok (.iadd, 1) := dec_96 (bv_31 (i := 12) rfl)
theorem dW_757 : decode code 757 = .ok (.iaload, 1) := dec_46 (bv_31 (i := 13) rfl)
theorem dW_758 : decode code 758 = .ok (.aload_n 0, 1) := dec_42 (bv_31 (i := 14) rfl)
theorem dW_759 : decode code 759 = .ok (.iload 4, 2) := dec_21 (bv_31 (i := 15) rfl) (bv_31 (i := 16) rfl) rfl
theorem dW_761 : decode code 761 = .ok (.iconst 2, 1) := dec_5 (bv_31 (i := 17) rfl)
theorem dW_762 : decode code 762 = .ok (.iadd, 1) := dec_96 (bv_31 (i := 18) rfl)
theorem dW_763 : decode code 763 = .ok (.iaload, 1) := dec_46 (bv_31 (i := 19) rfl)
theorem dW_764 : decode code 764 = .ok (.ifCond .eq 7, 3) := dec_153 (bv_31 (i := 20) rfl) (bv_31 (i := 21) rfl) (bv_31 (i := 22) rfl) (by decide +kernel)
theorem dW_767 : decode code 767 = .ok (.iconst 1, 1) := dec_4 (bv_31 (i := 23) rfl)
theorem dW_768 : decode code 768 = .ok (.goto 4, 3) := dec_167 (bv_32 (i := 0) rfl) (bv_32 (i := 1) rfl) (bv_32 (i := 2) rfl) (by decide +kernel)
theorem dW_771 : decode code 771 = .ok (.iconst 0, 1) := dec_3 (bv_32 (i := 3) rfl)
theorem dW_772 : decode code 772 = .ok (.invokevirtual 205, 3) := dec_182 (bv_32 (i := 4) rfl) (bv_32 (i := 5) rfl) (bv_32 (i := 6) rfl) rfl
theorem dW_775 : decode code 775 = .ok (.istore 6, 2) := dec_54 (bv_32 (i := 7) rfl) (bv_32 (i := 8) rfl) rfl
theorem dW_777 : decode code 777 = .ok (.goto 1579, 3) := dec_167 (bv_32 (i := 9) rfl) (bv_32 (i := 10) rfl) (bv_32 (i := 11) rfl) (by decide +kernel)
theorem dW_780 : decode code 780 = .ok (.aload_n 1, 1) := dec_43 (bv_32 (i := 12) rfl)
theorem dW_781 : decode code 781 = .ok (.aload_n 0, 1) := dec_42 (bv_32 (i := 13) rfl)
theorem dW_782 : decode code 782 = .ok (.iload 4, 2) := dec_21 (bv_32 (i := 14) rfl) (bv_32 (i := 15) rfl) rfl
theorem dW_784 : decode code 784 = .ok (.iconst 1, 1) := dec_4 (bv_32 (i := 16) rfl)
theorem dW_785 : decode code 785 = .ok (.iadd, 1) := dec_96 (bv_32 (i := 17) rfl)
theorem dW_786 : decode code 786 = .ok (.iaload, 1) := dec_46 (bv_32 (i := 18) rfl)
theorem dW_787 : decode code 787 = .ok (.aload_n 0, 1) := dec_42 (bv_32 (i := 19) rfl)
theorem dW_788 : decode code 788 = .ok (.iload 4, 2) := dec_21 (bv_32 (i := 20) rfl) (bv_32 (i := 21) rfl) rfl
theorem dW_790 : decode code 790 = .ok (.iconst 2, 1) := dec_5 (bv_32 (i := 22) rfl)
theorem dW_791 : decode code 791 = .ok (.iadd, 1) := dec_96 (bv_32 (i := 23) rfl)
theorem dW_792 : decode code 792 = .ok (.iaload, 1) := dec_46 (bv_33 (i := 0) rfl)
theorem dW_793 : decode code 793 = .ok (.aload_n 3, 1) := dec_45 (bv_33 (i := 1) rfl)
theorem dW_794 : decode code 794 = .ok (.invokestatic 206, 3) := dec_184 (bv_33 (i := 2) rfl) (bv_33 (i := 3) rfl) (bv_33 (i := 4) rfl) rfl
theorem dW_797 : decode code 797 = .ok (.istore 5, 2) := dec_54 (bv_33 (i := 5) rfl) (bv_33 (i := 6) rfl) rfl
theorem dW_799 : decode code 799 = .ok (.aload_n 2, 1) := dec_44 (bv_33 (i := 7) rfl)
theorem dW_800 : decode code 800 = .ok (.aload_n 0, 1) := dec_42 (bv_33 (i := 8) rfl)
theorem dW_801 : decode code 801 = .ok (.iload 4, 2) := dec_21 (bv_33 (i := 9) rfl) (bv_33 (i := 10) rfl) rfl
theorem dW_803 : decode code 803 = .ok (.iconst 1, 1) := dec_4 (bv_33 (i := 11) rfl)
theorem dW_804 : decode code 804 = .ok (.iadd, 1) := dec_96 (bv_33 (i := 12) rfl)
theorem dW_805 : decode code 805 = .ok (.iaload, 1) := dec_46 (bv_33 (i := 13) rfl)
theorem dW_806 : decode code 806 = .ok (.aload_n 0, 1) := dec_42 (bv_33 (i := 14) rfl)
theorem dW_807 : decode code 807 = .ok (.iload 4, 2) := dec_21 (bv_33 (i := 15) rfl) (bv_33 (i := 16) rfl) rfl
theorem dW_809 : decode code 809 = .ok (.iconst 2, 1) := dec_5 (bv_33 (i := 17) rfl)
theorem dW_810 : decode code 810 = .ok (.iadd, 1) := dec_96 (bv_33 (i := 18) rfl)
theorem dW_811 : decode code 811 = .ok (.iaload, 1) := dec_46 (bv_33 (i := 19) rfl)
theorem dW_812 : decode code 812 = .ok (.invokevirtual 209, 3) := dec_182 (bv_33 (i := 20) rfl) (bv_33 (i := 21) rfl) (bv_33 (i := 22) rfl) rfl
theorem dW_815 : decode code 815 = .ok (.istore 6, 2) := dec_54 (bv_33 (i := 23) rfl) (bv_34 (i := 0) rfl) rfl
theorem dW_817 : decode code 817 = .ok (.goto 1539, 3) := dec_167 (bv_34 (i := 1) rfl) (bv_34 (i := 2) rfl) (bv_34 (i := 3) rfl) (by decide +kernel)
theorem dW_820 : decode code 820 = .ok (.aload_n 1, 1) := dec_43 (bv_34 (i := 4) rfl)
theorem dW_821 : decode code 821 = .ok (.invokevirtual 210, 3) := dec_182 (bv_34 (i := 5) rfl) (bv_34 (i := 6) rfl) (bv_34 (i := 7) rfl) rfl
theorem dW_824 : decode code 824 = .ok (.pop, 1) := dec_87 (bv_34 (i := 8) rfl)
theorem dW_825 : decode code 825 = .ok (.aload_n 2, 1) := dec_44 (bv_34 (i := 9) rfl)
theorem dW_826 : decode code 826 = .ok (.invokevirtual 213, 3) := dec_182 (bv_34 (i := 10) rfl) (bv_34 (i := 11) rfl) (bv_34 (i := 12) rfl) rfl
theorem dW_829 : decode code 829 = .ok (.pop, 1) := dec_87 (bv_34 (i := 13) rfl)
theorem dW_830 : decode code 830 = .ok (.goto 1526, 3) := dec_167 (bv_34 (i := 14) rfl) (bv_34 (i := 15) rfl) (bv_34 (i := 16) rfl) (by decide +kernel)
theorem dW_833 : decode code 833 = .ok (.aload_n 1, 1) := dec_43 (bv_34 (i := 17) rfl)
theorem dW_834 : decode code 834 = .ok (.aload_n 0, 1) := dec_42 (bv_34 (i := 18) rfl)
theorem dW_835 : decode code 835 = .ok (.iload 4, 2) := dec_21 (bv_34 (i := 19) rfl) (bv_34 (i := 20) rfl) rfl
theorem dW_837 : decode code 837 = .ok (.iconst 1, 1) := dec_4 (bv_34 (i := 21) rfl)
theorem dW_838 : decode code 838 = .ok (.iadd, 1) := dec_96 (bv_34 (i := 22) rfl)
theorem dW_839 : decode code 839 = .ok (.iaload, 1) := dec_46 (bv_34 (i := 23) rfl)
theorem dW_840 : decode code 840 = .ok (.aload_n 0, 1) := dec_42 (bv_35 (i := 0) rfl)
theorem dW_841 : decode code 841 = .ok (.iload 4, 2) := dec_21 (bv_35 (i := 1) rfl) (bv_35 (i := 2) rfl) rfl
theorem dW_843 : decode code 843 = .ok (.iconst 2, 1) := dec_5 (bv_35 (i := 3) rfl)
theorem dW_844 : decode code 844 = .ok (.iadd, 1) := dec_96 (bv_35 (i := 4) rfl)
theorem dW_845 : decode code 845 = .ok (.iaload, 1) := dec_46 (bv_35 (i := 5) rfl)
theorem dW_846 : decode code 846 = .ok (.aload_n 0, 1) := dec_42 (bv_35 (i := 6) rfl)
theorem dW_847 : decode code 847 = .ok (.iload 4, 2) := dec_21 (bv_35 (i := 7) rfl) (bv_35 (i := 8) rfl) rfl
theorem dW_849 : decode code 849 = .ok (.iconst 3, 1) := dec_6 (bv_35 (i := 9) rfl)
theorem dW_850 : decode code 850 = .ok (.iadd, 1) := dec_96 (bv_35 (i := 10) rfl)
theorem dW_851 : decode code 851 = .ok (.iaload, 1) := dec_46 (bv_35 (i := 11) rfl)
theorem dW_852 : decode code 852 = .ok (.ifCond .eq 7, 3) := dec_153 (bv_35 (i := 12) rfl) (bv_35 (i := 13) rfl) (bv_35 (i := 14) rfl) (by decide +kernel)
theorem dW_855 : decode code 855 = .ok (.iconst 1, 1) := dec_4 (bv_35 (i := 15) rfl)
theorem dW_856 : decode code 856 = .ok (.goto 4, 3) := dec_167 (bv_35 (i := 16) rfl) (bv_35 (i := 17) rfl) (bv_35 (i := 18) rfl) (by decide +kernel)
theorem dW_859 : decode code 859 = .ok (.iconst 0, 1) := dec_3 (bv_35 (i := 19) rfl)
theorem dW_860 : decode code 860 = .ok (.aload_n 3, 1) := dec_45 (bv_35 (i := 20) rfl)
theorem dW_861 : decode code 861 = .ok (.invokestatic 214, 3) := dec_184 (bv_35 (i := 21) rfl) (bv_35 (i := 22) rfl) (bv_35 (i := 23) rfl) rfl
theorem dW_864 : decode code 864 = .ok (.istore 5, 2) := dec_54 (bv_36 (i := 0) rfl) (bv_36 (i := 1) rfl) rfl
theorem dW_866 : decode code 866 = .ok (.aload_n 2, 1) := dec_44 (bv_36 (i := 2) rfl)
theorem dW_867 : decode code 867 = .ok (.aload_n 0, 1) := dec_42 (bv_36 (i := 3) rfl)
theorem dW_868 : decode code 868 = .ok (.iload 4, 2) := dec_21 (bv_36 (i := 4) rfl) (bv_36 (i := 5) rfl) rfl
theorem dW_870 : decode code 870 = .ok (.iconst 1, 1) := dec_4 (bv_36 (i := 6) rfl)
theorem dW_871 : decode code 871 = .ok (.iadd, 1) := dec_96 (bv_36 (i := 7) rfl)
theorem dW_872 : decode code 872 = .ok (.iaload, 1) := dec_46 (bv_36 (i := 8) rfl)
theorem dW_873 : decode code 873 = .ok (.aload_n 0, 1) := dec_42 (bv_36 (i := 9) rfl)
theorem dW_874 : decode code 874 = .ok (.iload 4, 2) := dec_21 (bv_36 (i := 10) rfl) (bv_36 (i := 11) rfl) rfl
theorem dW_876 : decode code 876 = .ok (.iconst 2, 1) := dec_5 (bv_36 (i := 12) rfl)
theorem dW_877 : decode code 877 = .ok (.iadd, 1) := dec_96 (bv_36 (i := 13) rfl)
theorem dW_878 : decode code 878 = .ok (.iaload, 1) := dec_46 (bv_36 (i := 14) rfl)
theorem dW_879 : decode code 879 = .ok (.aload_n 0, 1) := dec_42 (bv_36 (i := 15) rfl)
theorem dW_880 : decode code 880 = .ok (.iload 4, 2) := dec_21 (bv_36 (i := 16) rfl) (bv_36 (i := 17) rfl) rfl
theorem dW_882 : decode code 882 = .ok (.iconst 3, 1) := dec_6 (bv_36 (i := 18) rfl)
theorem dW_883 : decode code 883 = .ok (.iadd, 1) := dec_96 (bv_36 (i := 19) rfl)
theorem dW_884 : decode code 884 = .ok (.iaload, 1) := dec_46 (bv_36 (i := 20) rfl)
theorem dW_885 : decode code 885 = .ok (.ifCond .eq 7, 3) := dec_153 (bv_36 (i := 21) rfl) (bv_36 (i := 22) rfl) (bv_36 (i := 23) rfl) (by decide +kernel)
theorem dW_888 : decode code 888 = .ok (.iconst 1, 1) := dec_4 (bv_37 (i := 0) rfl)
theorem dW_889 : decode code 889 = .ok (.goto 4, 3) := dec_167 (bv_37 (i := 1) rfl) (bv_37 (i := 2) rfl) (bv_37 (i := 3) rfl) (by decide +kernel)
theorem dW_892 : decode code 892 = .ok (.iconst 0, 1) := dec_3 (bv_37 (i := 4) rfl)
theorem dW_893 : decode code 893 = .ok (.invokevirtual 217, 3) := dec_182 (bv_37 (i := 5) rfl) (bv_37 (i := 6) rfl) (bv_37 (i := 7) rfl) rfl
theorem dW_896 : decode code 896 = .ok (.istore 6, 2) := dec_54 (bv_37 (i := 8) rfl) (bv_37 (i := 9) rfl) rfl
theorem dW_898 : decode code 898 = .ok (.goto 1458, 3) := dec_167 (bv_37 (i := 10) rfl) (bv_37 (i := 11) rfl) (bv_37 (i := 12) rfl) (by decide +kernel)
theorem dW_901 : decode code 901 = .ok (.aload_n 1, 1) := dec_43 (bv_37 (i := 13) rfl)
theorem dW_902 : decode code 902 = .ok (.aload_n 0, 1) := dec_42 (bv_37 (i := 14) rfl)
theorem dW_903 : decode code 903 = .ok (.iload 4, 2) := dec_21 (bv_37 (i := 15) rfl) (bv_37 (i := 16) rfl) rfl
theorem dW_905 : decode code 905 = .ok (.iconst 1, 1) := dec_4 (bv_37 (i := 17) rfl)
theorem dW_906 : decode code 906 = .ok (.iadd, 1) := dec_96 (bv_37 (i := 18) rfl)
theorem dW_907 : decode code 907 = .ok (.iaload, 1) := dec_46 (bv_37 (i := 19) rfl)
theorem dW_908 : decode code 908 = .ok (.aload_n 0, 1) := dec_42 (bv_37 (i := 20) rfl)
theorem dW_909 : decode code 909 = .ok (.iload 4, 2) := dec_21 (bv_37 (i := 21) rfl) (bv_37 (i := 22) rfl) rfl
theorem dW_911 : decode code 911 = .ok (.iconst 2, 1) := dec_5 (bv_37 (i := 23) rfl)
theorem dW_912 : decode code 912 = .ok (.iadd, 1) := dec_96 (bv_38 (i := 0) rfl)
theorem dW_913 : decode code 913 = .ok (.iaload, 1) := dec_46 (bv_38 (i := 1) rfl)
theorem dW_914 : decode code 914 = .ok (.aload_n 3, 1) := dec_45 (bv_38 (i := 2) rfl)
theorem dW_915 : decode code 915 = .ok (.invokestatic 218, 3) := dec_184 (bv_38 (i := 3) rfl) (bv_38 (i := 4) rfl) (bv_38 (i := 5) rfl) rfl
theorem dW_918 : decode code 918 = .ok (.istore 5, 2) := dec_54 (bv_38 (i := 6) rfl) (bv_38 (i := 7) rfl) rfl
theorem dW_920 : decode code 920 = .ok (.aload_n 2, 1) := dec_44 (bv_38 (i := 8) rfl)
theorem dW_921 : decode code 921 = .ok (.aload_n 0, 1) := dec_42 (bv_38 (i := 9) rfl)
theorem dW_922 : decode code 922 = .ok (.iload 4, 2) := dec_21 (bv_38 (i := 10) rfl) (bv_38 (i := 11) rfl) rfl
theorem dW_924 : decode code 924 = .ok (.iconst 1, 1) := dec_4 (bv_38 (i := 12) rfl)
theorem dW_925 : decode code 925 = .ok (.iadd, 1) := dec_96 (bv_38 (i := 13) rfl)
theorem dW_926 : decode code 926 = .ok (.iaload, 1) := dec_46 (bv_38 (i := 14) rfl)
theorem dW_927 : decode code 927 = .ok (.aload_n 0, 1) := dec_42 (bv_38 (i := 15) rfl)
theorem dW_928 : decode code 928 = .ok (.iload 4, 2) := dec_21 (bv_38 (i := 16) rfl) (bv_38 (i := 17) rfl) rfl
theorem dW_930 : decode code 930 = .ok (.iconst 2, 1) := dec_5 (bv_38 (i := 18) rfl)
theorem dW_931 : decode code 931 = .ok (.iadd, 1) := dec_96 (bv_38 (i := 19) rfl)
theorem dW_932 : decode code 932 = .ok (.iaload, 1) := dec_46 (bv_38 (i := 20) rfl)
theorem dW_933 : decode code 933 = .ok (.invokevirtual 220, 3) := dec_182 (bv_38 (i := 21) rfl) (bv_38 (i := 22) rfl) (bv_38 (i := 23) rfl) rfl
theorem dW_936 : decode code 936 = .ok (.istore 6, 2) := dec_54 (bv_39 (i := 0) rfl) (bv_39 (i := 1) rfl) rfl
theorem dW_938 : decode code 938 = .ok (.goto 1418, 3) := dec_167 (bv_39 (i := 2) rfl) (bv_39 (i := 3) rfl) (bv_39 (i := 4) rfl) (by decide +kernel)
theorem dW_941 : decode code 941 = .ok (.aload_n 1, 1) := dec_43 (bv_39 (i := 5) rfl)
theorem dW_942 : decode code 942 = .ok (.aload_n 0, 1) := dec_42 (bv_39 (i := 6) rfl)
theorem dW_943 : decode code 943 = .ok (.iload 4, 2) := dec_21 (bv_39 (i := 7) rfl) (bv_39 (i := 8) rfl) rfl
theorem dW_945 : decode code 945 = .ok (.iconst 1, 1) := dec_4 (bv_39 (i := 9) rfl)
theorem dW_946 : decode code 946 = .ok (.iadd, 1) := dec_96 (bv_39 (i := 10) rfl)
theorem dW_947 : decode code 947 = .ok (.iaload, 1) := dec_46 (bv_39 (i := 11) rfl)
theorem dW_948 : decode code 948 = .ok (.aload_n 0, 1) := dec_42 (bv_39 (i := 12) rfl)
theorem dW_949 : decode code 949 = .ok (.iload 4, 2) := dec_21 (bv_39 (i := 13) rfl) (bv_39 (i := 14) rfl) rfl
theorem dW_951 : decode code 951 = .ok (.iconst 2, 1) := dec_5 (bv_39 (i := 15) rfl)
theorem dW_952 : decode code 952 = .ok (.iadd, 1) := dec_96 (bv_39 (i := 16) rfl)
theorem dW_953 : decode code 953 = .ok (.iaload, 1) := dec_46 (bv_39 (i := 17) rfl)
theorem dW_954 : decode code 954 = .ok (.ifCond .eq 7, 3) := dec_153 (bv_39 (i := 18) rfl) (bv_39 (i := 19) rfl) (bv_39 (i := 20) rfl) (by decide +kernel)
theorem dW_957 : decode code 957 = .ok (.iconst 1, 1) := dec_4 (bv_39 (i := 21) rfl)
theorem dW_958 : decode code 958 = .ok (.goto 4, 3) := dec_167 (bv_39 (i := 22) rfl) (bv_39 (i := 23) rfl) (bv_40 (i := 0) rfl) (by decide +kernel)
theorem dW_961 : decode code 961 = .ok (.iconst 0, 1) := dec_3 (bv_40 (i := 1) rfl)
theorem dW_962 : decode code 962 = .ok (.aload_n 0, 1) := dec_42 (bv_40 (i := 2) rfl)
theorem dW_963 : decode code 963 = .ok (.iload 4, 2) := dec_21 (bv_40 (i := 3) rfl) (bv_40 (i := 4) rfl) rfl
theorem dW_965 : decode code 965 = .ok (.iconst 3, 1) := dec_6 (bv_40 (i := 5) rfl)
theorem dW_966 : decode code 966 = .ok (.iadd, 1) := dec_96 (bv_40 (i := 6) rfl)
theorem dW_967 : decode code 967 = .ok (.iaload, 1) := dec_46 (bv_40 (i := 7) rfl)
theorem dW_968 : decode code 968 = .ok (.aload_n 0, 1) := dec_42 (bv_40 (i := 8) rfl)
theorem dW_969 : decode code 969 = .ok (.iload 4, 2) := dec_21 (bv_40 (i := 9) rfl) (bv_40 (i := 10) rfl) rfl
theorem dW_971 : decode code 971 = .ok (.iconst 4, 1) := dec_7 (bv_40 (i := 11) rfl)
theorem dW_972 : decode code 972 = .ok (.iadd, 1) := dec_96 (bv_40 (i := 12) rfl)
theorem dW_973 : decode code 973 = .ok (.iaload, 1) := dec_46 (bv_40 (i := 13) rfl)
theorem dW_974 : decode code 974 = .ok (.aload_n 3, 1) := dec_45 (bv_40 (i := 14) rfl)
theorem dW_975 : decode code 975 = .ok (.invokestatic 221, 3) := dec_184 (bv_40 (i := 15) rfl) (bv_40 (i := 16) rfl) (bv_40 (i := 17) rfl) rfl
theorem dW_978 : decode code 978 = .ok (.istore 5, 2) := dec_54 (bv_40 (i := 18) rfl) (bv_40 (i := 19) rfl) rfl
theorem dW_980 : decode code 980 = .ok (.aload_n 2, 1) := dec_44 (bv_40 (i := 20) rfl)
theorem dW_981 : decode code 981 = .ok (.aload_n 0, 1) := dec_42 (bv_40 (i := 21) rfl)
theorem dW_982 : decode code 982 = .ok (.iload 4, 2) := dec_21 (bv_40 (i := 22) rfl) (bv_40 (i := 23) rfl) rfl
theorem dW_984 : decode code 984 = .ok (.iconst 1, 1) := dec_4 (bv_41 (i := 0) rfl)
theorem dW_985 : decode code 985 = .ok (.iadd, 1) := dec_96 (bv_41 (i := 1) rfl)
theorem dW_986 : decode code 986 = .ok (.iaload, 1) := dec_46 (bv_41 (i := 2) rfl)
theorem dW_987 : decode code 987 = .ok (.aload_n 0, 1) := dec_42 (bv_41 (i := 3) rfl)
theorem dW_988 : decode code 988 = .ok (.iload 4, 2) := dec_21 (bv_41 (i := 4) rfl) (bv_41 (i := 5) rfl) rfl
theorem dW_990 : decode code 990 = .ok (.iconst 2, 1) := dec_5 (bv_41 (i := 6) rfl)
theorem dW_991 : decode code 991 = .ok (.iadd, 1) := dec_96 (bv_41 (i := 7) rfl)
theorem dW_992 : decode code 992 = .ok (.iaload, 1) := dec_46 (bv_41 (i := 8) rfl)
theorem dW_993 : decode code 993 = .ok (.ifCond .eq 7, 3) := dec_153 (bv_41 (i := 9) rfl) (bv_41 (i := 10) rfl) (bv_41 (i := 11) rfl) (by decide +kernel)
theorem dW_996 : decode code 996 = .ok (.iconst 1, 1) := dec_4 (bv_41 (i := 12) rfl)
theorem dW_997 : decode code 997 = .ok (.goto 4, 3) := dec_167 (bv_41 (i := 13) rfl) (bv_41 (i := 14) rfl) (bv_41 (i := 15) rfl) (by decide +kernel)
theorem dW_1000 : decode code 1000 = .ok (.iconst 0, 1) := dec_3 (bv_41 (i := 16) rfl)
theorem dW_1001 : decode code 1001 = .ok (.aload_n 0, 1) := dec_42 (bv_41 (i := 17) rfl)
theorem dW_1002 : decode code 1002 = .ok (.iload 4, 2) := dec_21 (bv_41 (i := 18) rfl) (bv_41 (i := 19) rfl) rfl
theorem dW_1004 : decode code 1004 = .ok (.iconst 3, 1) := dec_6 (bv_41 (i := 20) rfl)
theorem dW_1005 : decode code 1005 = .ok (.iadd, 1) := dec_96 (bv_41 (i := 21) rfl)
theorem dW_1006 : decode code 1006 = .ok (.iaload, 1) := dec_46 (bv_41 (i := 22) rfl)
theorem dW_1007 : decode code 1007 = .ok (.aload_n 0, 1) := dec_42 (bv_41 (i := 23) rfl)
theorem dW_1008 : decode code 1008 = .ok (.iload 4, 2) := dec_21 (bv_42 (i := 0) rfl) (bv_42 (i := 1) rfl) rfl
theorem dW_1010 : decode code 1010 = .ok (.iconst 4, 1) := dec_7 (bv_42 (i := 2) rfl)
theorem dW_1011 : decode code 1011 = .ok (.iadd, 1) := dec_96 (bv_42 (i := 3) rfl)
theorem dW_1012 : decode code 1012 = .ok (.iaload, 1) := dec_46 (bv_42 (i := 4) rfl)
theorem dW_1013 : decode code 1013 = .ok (.invokevirtual 223, 3) := dec_182 (bv_42 (i := 5) rfl) (bv_42 (i := 6) rfl) (bv_42 (i := 7) rfl) rfl
theorem dW_1016 : decode code 1016 = .ok (.istore 6, 2) := dec_54 (bv_42 (i := 8) rfl) (bv_42 (i := 9) rfl) rfl
theorem dW_1018 : decode code 1018 = .ok (.goto 1338, 3) := dec_167 (bv_42 (i := 10) rfl) (bv_42 (i := 11) rfl) (bv_42 (i := 12) rfl) (by decide +kernel)
theorem dW_1021 : decode code 1021 = .ok (.aload_n 1, 1) := dec_43 (bv_42 (i := 13) rfl)
theorem dW_1022 : decode code 1022 = .ok (.aload_n 0, 1) := dec_42 (bv_42 (i := 14) rfl)
theorem dW_1023 : decode code 1023 = .ok (.iload 4, 2) := dec_21 (bv_42 (i := 15) rfl) (bv_42 (i := 16) rfl) rfl
theorem dW_1025 : decode code 1025 = .ok (.iconst 1, 1) := dec_4 (bv_42 (i := 17) rfl)
theorem dW_1026 : decode code 1026 = .ok (.iadd, 1) := dec_96 (bv_42 (i := 18) rfl)
theorem dW_1027 : decode code 1027 = .ok (.iaload, 1) := dec_46 (bv_42 (i := 19) rfl)
theorem dW_1028 : decode code 1028 = .ok (.aload_n 0, 1) := dec_42 (bv_42 (i := 20) rfl)
theorem dW_1029 : decode code 1029 = .ok (.iload 4, 2) := dec_21 (bv_42 (i := 21) rfl) (bv_42 (i := 22) rfl) rfl
theorem dW_1031 : decode code 1031 = .ok (.iconst 2, 1) := dec_5 (bv_42 (i := 23) rfl)
theorem dW_1032 : decode code 1032 = .ok (.iadd, 1) := dec_96 (bv_43 (i := 0) rfl)
theorem dW_1033 : decode code 1033 = .ok (.iaload, 1) := dec_46 (bv_43 (i := 1) rfl)
theorem dW_1034 : decode code 1034 = .ok (.ifCond .eq 7, 3) := dec_153 (bv_43 (i := 2) rfl) (bv_43 (i := 3) rfl) (bv_43 (i := 4) rfl) (by decide +kernel)
theorem dW_1037 : decode code 1037 = .ok (.iconst 1, 1) := dec_4 (bv_43 (i := 5) rfl)
theorem dW_1038 : decode code 1038 = .ok (.goto 4, 3) := dec_167 (bv_43 (i := 6) rfl) (bv_43 (i := 7) rfl) (bv_43 (i := 8) rfl) (by decide +kernel)
theorem dW_1041 : decode code 1041 = .ok (.iconst 0, 1) := dec_3 (bv_43 (i := 9) rfl)
theorem dW_1042 : decode code 1042 = .ok (.aload_n 0, 1) := dec_42 (bv_43 (i := 10) rfl)
theorem dW_1043 : decode code 1043 = .ok (.iload 4, 2) := dec_21 (bv_43 (i := 11) rfl) (bv_43 (i := 12) rfl) rfl
theorem dW_1045 : decode code 1045 = .ok (.iconst 3, 1) := dec_6 (bv_43 (i := 13) rfl)
theorem dW_1046 : decode code 1046 = .ok (.iadd, 1) := dec_96 (bv_43 (i := 14) rfl)
theorem dW_1047 : decode code 1047 = .ok (.iaload, 1) := dec_46 (bv_43 (i := 15) rfl)
theorem dW_1048 : decode code 1048 = .ok (.aload_n 3, 1) := dec_45 (bv_43 (i := 16) rfl)
theorem dW_1049 : decode code 1049 = .ok (.invokestatic 224, 3) := dec_184 (bv_43 (i := 17) rfl) (bv_43 (i := 18) rfl) (bv_43 (i := 19) rfl) rfl
theorem dW_1052 : decode code 1052 = .ok (.istore 5, 2) := dec_54 (bv_43 (i := 20) rfl) (bv_43 (i := 21) rfl) rfl
theorem dW_1054 : decode code 1054 = .ok (.aload_n 2, 1) := dec_44 (bv_43 (i := 22) rfl)
theorem dW_1055 : decode code 1055 = .ok (.aload_n 0, 1) := dec_42 (bv_43 (i := 23) rfl)
theorem dW_1056 : decode code 1056 = .ok (.iload 4, 2) := dec_21 (bv_44 (i := 0) rfl) (bv_44 (i := 1) rfl) rfl
theorem dW_1058 : decode code 1058 = .ok (.iconst 1, 1) := dec_4 (bv_44 (i := 2) rfl)
theorem dW_1059 : decode code 1059 = .ok (.iadd, 1) := dec_96 (bv_44 (i := 3) rfl)
theorem dW_1060 : decode code 1060 = .ok (.iaload, 1) := dec_46 (bv_44 (i := 4) rfl)
theorem dW_1061 : decode code 1061 = .ok (.aload_n 0, 1) := dec_42 (bv_44 (i := 5) rfl)
theorem dW_1062 : decode code 1062 = .ok (.iload 4, 2) := dec_21 (bv_44 (i := 6) rfl) (bv_44 (i := 7) rfl) rfl
theorem dW_1064 : decode code 1064 = .ok (.iconst 2, 1) := dec_5 (bv_44 (i := 8) rfl)
theorem dW_1065 : decode code 1065 = .ok (.iadd, 1) := dec_96 (bv_44 (i := 9) rfl)
theorem dW_1066 : decode code 1066 = .ok (.iaload, 1) := dec_46 (bv_44 (i := 10) rfl)
theorem dW_1067 : decode code 1067 = .ok (.ifCond .eq 7, 3) := dec_153 (bv_44 (i := 11) rfl) (bv_44 (i := 12) rfl) (bv_44 (i := 13) rfl) (by decide +kernel)
theorem dW_1070 : decode code 1070 = .ok (.iconst 1, 1) := dec_4 (bv_44 (i := 14) rfl)
theorem dW_1071 : decode code 1071 = .ok (.goto 4, 3) := dec_167 (bv_44 (i := 15) rfl) (bv_44 (i := 16) rfl) (bv_44 (i := 17) rfl) (by decide +kernel)
theorem dW_1074 : decode code 1074 = .ok (.iconst 0, 1) := dec_3 (bv_44 (i := 18) rfl)
theorem dW_1075 : decode code 1075 = .ok (.aload_n 0, 1) := dec_42 (bv_44 (i := 19) rfl)
theorem dW_1076 : decode code 1076 = .ok (.iload 4, 2) := dec_21 (bv_44 (i := 20) rfl) (bv_44 (i := 21) rfl) rfl
theorem dW_1078 : decode code 1078 = .ok (.iconst 3, 1) := dec_6 (bv_44 (i := 22) rfl)
theorem dW_1079 : decode code 1079 = .ok (.iadd, 1) := dec_96 (bv_44 (i := 23) rfl)
theorem dW_1080 : decode code 1080 = .ok (.iaload, 1) := dec_46 (bv_45 (i := 0) rfl)
theorem dW_1081 : decode code 1081 = .ok (.invokevirtual 227, 3) := dec_182 (bv_45 (i := 1) rfl) (bv_45 (i := 2) rfl) (bv_45 (i := 3) rfl) rfl
theorem dW_1084 : decode code 1084 = .ok (.istore 6, 2) := dec_54 (bv_45 (i := 4) rfl) (bv_45 (i := 5) rfl) rfl
theorem dW_1086 : decode code 1086 = .ok (.goto 1270, 3) := dec_167 (bv_45 (i := 6) rfl) (bv_45 (i := 7) rfl) (bv_45 (i := 8) rfl) (by decide +kernel)
theorem dW_1089 : decode code 1089 = .ok (.aload_n 1, 1) := dec_43 (bv_45 (i := 9) rfl)
theorem dW_1090 : decode code 1090 = .ok (.aload_n 0, 1) := dec_42 (bv_45 (i := 10) rfl)
theorem dW_1091 : decode code 1091 = .ok (.iload 4, 2) := dec_21 (bv_45 (i := 11) rfl) (bv_45 (i := 12) rfl) rfl
theorem dW_1093 : decode code 1093 = .ok (.iconst 1, 1) := dec_4 (bv_45 (i := 13) rfl)
theorem dW_1094 : decode code 1094 = .ok (.iadd, 1) := dec_96 (bv_45 (i := 14) rfl)
theorem dW_1095 : decode code 1095 = .ok (.iaload, 1) := dec_46 (bv_45 (i := 15) rfl)
theorem dW_1096 : decode code 1096 = .ok (.aload_n 3, 1) := dec_45 (bv_45 (i := 16) rfl)
theorem dW_1097 : decode code 1097 = .ok (.invokestatic 228, 3) := dec_184 (bv_45 (i := 17) rfl) (bv_45 (i := 18) rfl) (bv_45 (i := 19) rfl) rfl
theorem dW_1100 : decode code 1100 = .ok (.istore 5, 2) := dec_54 (bv_45 (i := 20) rfl) (bv_45 (i := 21) rfl) rfl
theorem dW_1102 : decode code 1102 = .ok (.aload_n 2, 1) := dec_44 (bv_45 (i := 22) rfl)
theorem dW_1103 : decode code 1103 = .ok (.aload_n 0, 1) := dec_42 (bv_45 (i := 23) rfl)
theorem dW_1104 : decode code 1104 = .ok (.iload 4, 2) := dec_21 (bv_46 (i := 0) rfl) (bv_46 (i := 1) rfl) rfl
theorem dW_1106 : decode code 1106 = .ok (.iconst 1, 1) := dec_4 (bv_46 (i := 2) rfl)
theorem dW_1107 : decode code 1107 = .ok (.iadd, 1) := dec_96 (bv_46 (i := 3) rfl)
theorem dW_1108 : decode code 1108 = .ok (.iaload, 1) := dec_46 (bv_46 (i := 4) rfl)
theorem dW_1109 : decode code 1109 = .ok (.invokevirtual 230, 3) := dec_182 (bv_46 (i := 5) rfl) (bv_46 (i := 6) rfl) (bv_46 (i := 7) rfl) rfl
theorem dW_1112 : decode code 1112 = .ok (.istore 6, 2) := dec_54 (bv_46 (i := 8) rfl) (bv_46 (i := 9) rfl) rfl
theorem dW_1114 : decode code 1114 = .ok (.goto 1242, 3) := dec_167 (bv_46 (i := 10) rfl) (bv_46 (i := 11) rfl) (bv_46 (i := 12) rfl) (by decide +kernel)
theorem dW_1117 : decode code 1117 = .ok (.aload_n 1, 1) := dec_43 (bv_46 (i := 13) rfl)
theorem dW_1118 : decode code 1118 = .ok (.aload_n 0, 1) := dec_42 (bv_46 (i := 14) rfl)
theorem dW_1119 : decode code 1119 = .ok (.iload 4, 2) := dec_21 (bv_46 (i := 15) rfl) (bv_46 (i := 16) rfl) rfl
theorem dW_1121 : decode code 1121 = .ok (.iconst 1, 1) := dec_4 (bv_46 (i := 17) rfl)
theorem dW_1122 : decode code 1122 = .ok (.iadd, 1) := dec_96 (bv_46 (i := 18) rfl)
theorem dW_1123 : decode code 1123 = .ok (.iaload, 1) := dec_46 (bv_46 (i := 19) rfl)
theorem dW_1124 : decode code 1124 = .ok (.aload_n 3, 1) := dec_45 (bv_46 (i := 20) rfl)
theorem dW_1125 : decode code 1125 = .ok (.invokestatic 231, 3) := dec_184 (bv_46 (i := 21) rfl) (bv_46 (i := 22) rfl) (bv_46 (i := 23) rfl) rfl
theorem dW_1128 : decode code 1128 = .ok (.istore 5, 2) := dec_54 (bv_47 (i := 0) rfl) (bv_47 (i := 1) rfl) rfl
theorem dW_1130 : decode code 1130 = .ok (.aload_n 2, 1) := dec_44 (bv_47 (i := 2) rfl)
theorem dW_1131 : decode code 1131 = .ok (.aload_n 0, 1) := dec_42 (bv_47 (i := 3) rfl)
theorem dW_1132 : decode code 1132 = .ok (.iload 4, 2) := dec_21 (bv_47 (i := 4) rfl) (bv_47 (i := 5) rfl) rfl
theorem dW_1134 : decode code 1134 = .ok (.iconst 1, 1) := dec_4 (bv_47 (i := 6) rfl)
theorem dW_1135 : decode code 1135 = .ok (.iadd, 1) := dec_96 (bv_47 (i := 7) rfl)
theorem dW_1136 : decode code 1136 = .ok (.iaload, 1) := dec_46 (bv_47 (i := 8) rfl)
theorem dW_1137 : decode code 1137 = .ok (.invokevirtual 233, 3) := dec_182 (bv_47 (i := 9) rfl) (bv_47 (i := 10) rfl) (bv_47 (i := 11) rfl) rfl
theorem dW_1140 : decode code 1140 = .ok (.istore 6, 2) := dec_54 (bv_47 (i := 12) rfl) (bv_47 (i := 13) rfl) rfl
theorem dW_1142 : decode code 1142 = .ok (.goto 1214, 3) := dec_167 (bv_47 (i := 14) rfl) (bv_47 (i := 15) rfl) (bv_47 (i := 16) rfl) (by decide +kernel)
theorem dW_1145 : decode code 1145 = .ok (.aload_n 1, 1) := dec_43 (bv_47 (i := 17) rfl)
theorem dW_1146 : decode code 1146 = .ok (.aload_n 0, 1) := dec_42 (bv_47 (i := 18) rfl)
theorem dW_1147 : decode code 1147 = .ok (.iload 4, 2) := dec_21 (bv_47 (i := 19) rfl) (bv_47 (i := 20) rfl) rfl
theorem dW_1149 : decode code 1149 = .ok (.iconst 1, 1) := dec_4 (bv_47 (i := 21) rfl)
theorem dW_1150 : decode code 1150 = .ok (.iadd, 1) := dec_96 (bv_47 (i := 22) rfl)
theorem dW_1151 : decode code 1151 = .ok (.iaload, 1) := dec_46 (bv_47 (i := 23) rfl)
theorem dW_1152 : decode code 1152 = .ok (.ifCond .eq 7, 3) := dec_153 (bv_48 (i := 0) rfl) (bv_48 (i := 1) rfl) (bv_48 (i := 2) rfl) (by decide +kernel)
theorem dW_1155 : decode code 1155 = .ok (.iconst 1, 1) := dec_4 (bv_48 (i := 3) rfl)
theorem dW_1156 : decode code 1156 = .ok (.goto 4, 3) := dec_167 (bv_48 (i := 4) rfl) (bv_48 (i := 5) rfl) (bv_48 (i := 6) rfl) (by decide +kernel)
theorem dW_1159 : decode code 1159 = .ok (.iconst 0, 1) := dec_3 (bv_48 (i := 7) rfl)
theorem dW_1160 : decode code 1160 = .ok (.invokevirtual 234, 3) := dec_182 (bv_48 (i := 8) rfl) (bv_48 (i := 9) rfl) (bv_48 (i := 10) rfl) rfl
theorem dW_1163 : decode code 1163 = .ok (.pop, 1) := dec_87 (bv_48 (i := 11) rfl)
theorem dW_1164 : decode code 1164 = .ok (.aload_n 2, 1) := dec_44 (bv_48 (i := 12) rfl)
theorem dW_1165 : decode code 1165 = .ok (.aload_n 0, 1) := dec_42 (bv_48 (i := 13) rfl)
theorem dW_1166 : decode code 1166 = .ok (.iload 4, 2) := dec_21 (bv_48 (i := 14) rfl) (bv_48 (i := 15) rfl) rfl
theorem dW_1168 : decode code 1168 = .ok (.iconst 1, 1) := dec_4 (bv_48 (i := 16) rfl)
theorem dW_1169 : decode code 1169 = .ok (.iadd, 1) := dec_96 (bv_48 (i := 17) rfl)
theorem dW_1170 : decode code 1170 = .ok (.iaload, 1) := dec_46 (bv_48 (i := 18) rfl)
theorem dW_1171 : decode code 1171 = .ok (.ifCond .eq 7, 3) := dec_153 (bv_48 (i := 19) rfl) (bv_48 (i := 20) rfl) (bv_48 (i := 21) rfl) (by decide +kernel)
theorem dW_1174 : decode code 1174 = .ok (.iconst 1, 1) := dec_4 (bv_48 (i := 22) rfl)
theorem dW_1175 : decode code 1175 = .ok (.goto 4, 3) := dec_167 (bv_48 (i := 23) rfl) (bv_49 (i := 0) rfl) (bv_49 (i := 1) rfl) (by decide +kernel)
theorem dW_1178 : decode code 1178 = .ok (.iconst 0, 1) := dec_3 (bv_49 (i := 2) rfl)
theorem dW_1179 : decode code 1179 = .ok (.invokevirtual 238, 3) := dec_182 (bv_49 (i := 3) rfl) (bv_49 (i := 4) rfl) (bv_49 (i := 5) rfl) rfl
theorem dW_1182 : decode code 1182 = .ok (.pop, 1) := dec_87 (bv_49 (i := 6) rfl)
theorem dW_1183 : decode code 1183 = .ok (.goto 1173, 3) := dec_167 (bv_49 (i := 7) rfl) (bv_49 (i := 8) rfl) (bv_49 (i := 9) rfl) (by decide +kernel)
theorem dW_1186 : decode code 1186 = .ok (.aload_n 1, 1) := dec_43 (bv_49 (i := 10) rfl)
theorem dW_1187 : decode code 1187 = .ok (.aload_n 0, 1) := dec_42 (bv_49 (i := 11) rfl)
theorem dW_1188 : decode code 1188 = .ok (.iload 4, 2) := dec_21 (bv_49 (i := 12) rfl) (bv_49 (i := 13) rfl) rfl
theorem dW_1190 : decode code 1190 = .ok (.iconst 1, 1) := dec_4 (bv_49 (i := 14) rfl)
theorem dW_1191 : decode code 1191 = .ok (.iadd, 1) := dec_96 (bv_49 (i := 15) rfl)
theorem dW_1192 : decode code 1192 = .ok (.iaload, 1) := dec_46 (bv_49 (i := 16) rfl)
theorem dW_1193 : decode code 1193 = .ok (.ifCond .eq 7, 3) := dec_153 (bv_49 (i := 17) rfl) (bv_49 (i := 18) rfl) (bv_49 (i := 19) rfl) (by decide +kernel)
theorem dW_1196 : decode code 1196 = .ok (.iconst 1, 1) := dec_4 (bv_49 (i := 20) rfl)
theorem dW_1197 : decode code 1197 = .ok (.goto 4, 3) := dec_167 (bv_49 (i := 21) rfl) (bv_49 (i := 22) rfl) (bv_49 (i := 23) rfl) (by decide +kernel)
theorem dW_1200 : decode code 1200 = .ok (.iconst 0, 1) := dec_3 (bv_50 (i := 0) rfl)
theorem dW_1201 : decode code 1201 = .ok (.invokevirtual 239, 3) := dec_182 (bv_50 (i := 1) rfl) (bv_50 (i := 2) rfl) (bv_50 (i := 3) rfl) rfl
theorem dW_1204 : decode code 1204 = .ok (.pop, 1) := dec_87 (bv_50 (i := 4) rfl)
theorem dW_1205 : decode code 1205 = .ok (.aload_n 2, 1) := dec_44 (bv_50 (i := 5) rfl)
theorem dW_1206 : decode code 1206 = .ok (.aload_n 0, 1) := dec_42 (bv_50 (i := 6) rfl)
theorem dW_1207 : decode code 1207 = .ok (.iload 4, 2) := dec_21 (bv_50 (i := 7) rfl) (bv_50 (i := 8) rfl) rfl
theorem dW_1209 : decode code 1209 = .ok (.iconst 1, 1) := dec_4 (bv_50 (i := 9) rfl)
theorem dW_1210 : decode code 1210 = .ok (.iadd, 1) := dec_96 (bv_50 (i := 10) rfl)
theorem dW_1211 : decode code 1211 = .ok (.iaload, 1) := dec_46 (bv_50 (i := 11) rfl)
theorem dW_1212 : decode code 1212 = .ok (.ifCond .eq 7, 3) := dec_153 (bv_50 (i := 12) rfl) (bv_50 (i := 13) rfl) (bv_50 (i := 14) rfl) (by decide +kernel)
theorem dW_1215 : decode code 1215 = .ok (.iconst 1, 1) := dec_4 (bv_50 (i := 15) rfl)
theorem dW_1216 : decode code 1216 = .ok (.goto 4, 3) := dec_167 (bv_50 (i := 16) rfl) (bv_50 (i := 17) rfl) (bv_50 (i := 18) rfl) (by decide +kernel)
theorem dW_1219 : decode code 1219 = .ok (.iconst 0, 1) := dec_3 (bv_50 (i := 19) rfl)
theorem dW_1220 : decode code 1220 = .ok (.invokevirtual 242, 3) := dec_182 (bv_50 (i := 20) rfl) (bv_50 (i := 21) rfl) (bv_50 (i := 22) rfl) rfl
theorem dW_1223 : decode code 1223 = .ok (.pop, 1) := dec_87 (bv_50 (i := 23) rfl)
theorem dW_1224 : decode code 1224 = .ok (.goto 1132, 3) := dec_167 (bv_51 (i := 0) rfl) (bv_51 (i := 1) rfl) (bv_51 (i := 2) rfl) (by decide +kernel)
theorem dW_1227 : decode code 1227 = .ok (.aload_n 1, 1) := dec_43 (bv_51 (i := 3) rfl)
theorem dW_1228 : decode code 1228 = .ok (.aload_n 3, 1) := dec_45 (bv_51 (i := 4) rfl)
theorem dW_1229 : decode code 1229 = .ok (.invokestatic 243, 3) := dec_184 (bv_51 (i := 5) rfl) (bv_51 (i := 6) rfl) (bv_51 (i := 7) rfl) rfl
theorem dW_1232 : decode code 1232 = .ok (.istore 5, 2) := dec_54 (bv_51 (i := 8) rfl) (bv_51 (i := 9) rfl) rfl
theorem dW_1234 : decode code 1234 = .ok (.aload_n 2, 1) := dec_44 (bv_51 (i := 10) rfl)
theorem dW_1235 : decode code 1235 = .ok (.invokevirtual 246, 3) := dec_182 (bv_51 (i := 11) rfl) (bv_51 (i := 12) rfl) (bv_51 (i := 13) rfl) rfl
theorem dW_1238 : decode code 1238 = .ok (.istore 6, 2) := dec_54 (bv_51 (i := 14) rfl) (bv_51 (i := 15) rfl) rfl
theorem dW_1240 : decode code 1240 = .ok (.goto 1116, 3) := dec_167 (bv_51 (i := 16) rfl) (bv_51 (i := 17) rfl) (bv_51 (i := 18) rfl) (by decide +kernel)
theorem dW_1243 : decode code 1243 = .ok (.aload_n 1, 1) := dec_43 (bv_51 (i := 19) rfl)
theorem dW_1244 : decode code 1244 = .ok (.aload_n 3, 1) := dec_45 (bv_51 (i := 20) rfl)
theorem dW_1245 : decode code 1245 = .ok (.invokestatic 247, 3) := dec_184 (bv_51 (i := 21) rfl) (bv_51 (i := 22) rfl) (bv_51 (i := 23) rfl) rfl
theorem dW_1248 : decode code 1248 = .ok (.istore 5, 2) := dec_54 (bv_52 (i := 0) rfl) (bv_52 (i := 1) rfl) rfl
theorem dW_1250 : decode code 1250 = .ok (.aload_n 2, 1) := dec_44 (bv_52 (i := 2) rfl)
theorem dW_1251 : decode code 1251 = .ok (.invokevirtual 249, 3) := dec_182 (bv_52 (i := 3) rfl) (bv_52 (i := 4) rfl) (bv_52 (i := 5) rfl) rfl
theorem dW_1254 : decode code 1254 = .ok (.istore 6, 2) := dec_54 (bv_52 (i := 6) rfl) (bv_52 (i := 7) rfl) rfl
theorem dW_1256 : decode code 1256 = .ok (.goto 1100, 3) := dec_167 (bv_52 (i := 8) rfl) (bv_52 (i := 9) rfl) (bv_52 (i := 10) rfl) (by decide +kernel)
theorem dW_1259 : decode code 1259 = .ok (.aload_n 1, 1) := dec_43 (bv_52 (i := 11) rfl)
theorem dW_1260 : decode code 1260 = .ok (.aload_n 0, 1) := dec_42 (bv_52 (i := 12) rfl)
theorem dW_1261 : decode code 1261 = .ok (.iload 4, 2) := dec_21 (bv_52 (i := 13) rfl) (bv_52 (i := 14) rfl) rfl
theorem dW_1263 : decode code 1263 = .ok (.iconst 1, 1) := dec_4 (bv_52 (i := 15) rfl)
theorem dW_1264 : decode code 1264 = .ok (.iadd, 1) := dec_96 (bv_52 (i := 16) rfl)
theorem dW_1265 : decode code 1265 = .ok (.iaload, 1) := dec_46 (bv_52 (i := 17) rfl)
theorem dW_1266 : decode code 1266 = .ok (.aload_n 0, 1) := dec_42 (bv_52 (i := 18) rfl)
theorem dW_1267 : decode code 1267 = .ok (.iload 4, 2) := dec_21 (bv_52 (i := 19) rfl) (bv_52 (i := 20) rfl) rfl
theorem dW_1269 : decode code 1269 = .ok (.iconst 2, 1) := dec_5 (bv_52 (i := 21) rfl)
theorem dW_1270 : decode code 1270 = .ok (.iadd, 1) := dec_96 (bv_52 (i := 22) rfl)
theorem dW_1271 : decode code 1271 = .ok (.iaload, 1) := dec_46 (bv_52 (i := 23) rfl)
theorem dW_1272 : decode code 1272 = .ok (.aload_n 0, 1) := dec_42 (bv_53 (i := 0) rfl)
theorem dW_1273 : decode code 1273 = .ok (.iload 4, 2) := dec_21 (bv_53 (i := 1) rfl) (bv_53 (i := 2) rfl) rfl
theorem dW_1275 : decode code 1275 = .ok (.iconst 3, 1) := dec_6 (bv_53 (i := 3) rfl)
theorem dW_1276 : decode code 1276 = .ok (.iadd, 1) := dec_96 (bv_53 (i := 4) rfl)
theorem dW_1277 : decode code 1277 = .ok (.iaload, 1) := dec_46 (bv_53 (i := 5) rfl)
theorem dW_1278 : decode code 1278 = .ok (.aload_n 3, 1) := dec_45 (bv_53 (i := 6) rfl)
theorem dW_1279 : decode code 1279 = .ok (.invokestatic 250, 3) := dec_184 (bv_53 (i := 7) rfl) (bv_53 (i := 8) rfl) (bv_53 (i := 9) rfl) rfl
theorem dW_1282 : decode code 1282 = .ok (.istore 5, 2) := dec_54 (bv_53 (i := 10) rfl) (bv_53 (i := 11) rfl) rfl
theorem dW_1284 : decode code 1284 = .ok (.aload_n 2, 1) := dec_44 (bv_53 (i := 12) rfl)
theorem dW_1285 : decode code 1285 = .ok (.aload_n 0, 1) := dec_42 (bv_53 (i := 13) rfl)
theorem dW_1286 : decode code 1286 = .ok (.iload 4, 2) := dec_21 (bv_53 (i := 14) rfl) (bv_53 (i := 15) rfl) rfl
theorem dW_1288 : decode code 1288 = .ok (.iconst 1, 1) := dec_4 (bv_53 (i := 16) rfl)
theorem dW_1289 : decode code 1289 = .ok (.iadd, 1) := dec_96 (bv_53 (i := 17) rfl)
theorem dW_1290 : decode code 1290 = .ok (.iaload, 1) := dec_46 (bv_53 (i := 18) rfl)
theorem dW_1291 : decode code 1291 = .ok (.aload_n 0, 1) := dec_42 (bv_53 (i := 19) rfl)
theorem dW_1292 : decode code 1292 = .ok (.iload 4, 2) := dec_21 (bv_53 (i := 20) rfl) (bv_53 (i := 21) rfl) rfl
theorem dW_1294 : decode code 1294 = .ok (.iconst 2, 1) := dec_5 (bv_53 (i := 22) rfl)
theorem dW_1295 : decode code 1295 = .ok (.iadd, 1) := dec_96 (bv_53 (i := 23) rfl)
theorem dW_1296 : decode code 1296 = .ok (.iaload, 1) := dec_46 (bv_54 (i := 0) rfl)
theorem dW_1297 : decode code 1297 = .ok (.aload_n 0, 1) := dec_42 (bv_54 (i := 1) rfl)
theorem dW_1298 : decode code 1298 = .ok (.iload 4, 2) := dec_21 (bv_54 (i := 2) rfl) (bv_54 (i := 3) rfl) rfl
theorem dW_1300 : decode code 1300 = .ok (.iconst 3, 1) := dec_6 (bv_54 (i := 4) rfl)
theorem dW_1301 : decode code 1301 = .ok (.iadd, 1) := dec_96 (bv_54 (i := 5) rfl)
theorem dW_1302 : decode code 1302 = .ok (.iaload, 1) := dec_46 (bv_54 (i := 6) rfl)
theorem dW_1303 : decode code 1303 = .ok (.invokevirtual 252, 3) := dec_182 (bv_54 (i := 7) rfl) (bv_54 (i := 8) rfl) (bv_54 (i := 9) rfl) rfl
theorem dW_1306 : decode code 1306 = .ok (.istore 6, 2) := dec_54 (bv_54 (i := 10) rfl) (bv_54 (i := 11) rfl) rfl
theorem dW_1308 : decode code 1308 = .ok (.goto 1048, 3) := dec_167 (bv_54 (i := 12) rfl) (bv_54 (i := 13) rfl) (bv_54 (i := 14) rfl) (by decide +kernel)
theorem dW_1311 : decode code 1311 = .ok (.aload_n 1, 1) := dec_43 (bv_54 (i := 15) rfl)
theorem dW_1312 : decode code 1312 = .ok (.aload_n 0, 1) := dec_42 (bv_54 (i := 16) rfl)
theorem dW_1313 : decode code 1313 = .ok (.iload 4, 2) := dec_21 (bv_54 (i := 17) rfl) (bv_54 (i := 18) rfl) rfl
theorem dW_1315 : decode code 1315 = .ok (.iconst 1, 1) := dec_4 (bv_54 (i := 19) rfl)
theorem dW_1316 : decode code 1316 = .ok (.iadd, 1) := dec_96 (bv_54 (i := 20) rfl)
theorem dW_1317 : decode code 1317 = .ok (.iaload, 1) := dec_46 (bv_54 (i := 21) rfl)
theorem dW_1318 : decode code 1318 = .ok (.aload_n 3, 1) := dec_45 (bv_54 (i := 22) rfl)
theorem dW_1319 : decode code 1319 = .ok (.invokestatic 253, 3) := dec_184 (bv_54 (i := 23) rfl) (bv_55 (i := 0) rfl) (bv_55 (i := 1) rfl) rfl
theorem dW_1322 : decode code 1322 = .ok (.istore 5, 2) := dec_54 (bv_55 (i := 2) rfl) (bv_55 (i := 3) rfl) rfl
theorem dW_1324 : decode code 1324 = .ok (.aload_n 2, 1) := dec_44 (bv_55 (i := 4) rfl)
theorem dW_1325 : decode code 1325 = .ok (.aload_n 0, 1) := dec_42 (bv_55 (i := 5) rfl)
theorem dW_1326 : decode code 1326 = .ok (.iload 4, 2) := dec_21 (bv_55 (i := 6) rfl) (bv_55 (i := 7) rfl) rfl
theorem dW_1328 : decode code 1328 = .ok (.iconst 1, 1) := dec_4 (bv_55 (i := 8) rfl)
theorem dW_1329 : decode code 1329 = .ok (.iadd, 1) := dec_96 (bv_55 (i := 9) rfl)
theorem dW_1330 : decode code 1330 = .ok (.iaload, 1) := dec_46 (bv_55 (i := 10) rfl)
theorem dW_1331 : decode code 1331 = .ok (.invokevirtual 255, 3) := dec_182 (bv_55 (i := 11) rfl) (bv_55 (i := 12) rfl) (bv_55 (i := 13) rfl) rfl
theorem dW_1334 : decode code 1334 = .ok (.istore 6, 2) := dec_54 (bv_55 (i := 14) rfl) (bv_55 (i := 15) rfl) rfl
theorem dW_1336 : decode code 1336 = .ok (.goto 1020, 3) := dec_167 (bv_55 (i := 16) rfl) (bv_55 (i := 17) rfl) (bv_55 (i := 18) rfl) (by decide +kernel)
theorem dW_1339 : decode code 1339 = .ok (.aload_n 1, 1) := dec_43 (bv_55 (i := 19) rfl)
theorem dW_1340 : decode code 1340 = .ok (.aload_n 0, 1) := dec_42 (bv_55 (i := 20) rfl)
theorem dW_1341 : decode code 1341 = .ok (.iload 4, 2) := dec_21 (bv_55 (i := 21) rfl) (bv_55 (i := 22) rfl) rfl
theorem dW_1343 : decode code 1343 = .ok (.iconst 1, 1) := dec_4 (bv_55 (i := 23) rfl)
theorem dW_1344 : decode code 1344 = .ok (.iadd, 1) := dec_96 (bv_56 (i := 0) rfl)
theorem dW_1345 : decode code 1345 = .ok (.iaload, 1) := dec_46 (bv_56 (i := 1) rfl)
theorem dW_1346 : decode code 1346 = .ok (.aload_n 0, 1) := dec_42 (bv_56 (i := 2) rfl)
theorem dW_1347 : decode code 1347 = .ok (.iload 4, 2) := dec_21 (bv_56 (i := 3) rfl) (bv_56 (i := 4) rfl) rfl
theorem dW_1349 : decode code 1349 = .ok (.iconst 2, 1) := dec_5 (bv_56 (i := 5) rfl)
theorem dW_1350 : decode code 1350 = .ok (.iadd, 1) := dec_96 (bv_56 (i := 6) rfl)
theorem dW_1351 : decode code 1351 = .ok (.iaload, 1) := dec_46 (bv_56 (i := 7) rfl)
theorem dW_1352 : decode code 1352 = .ok (.aload_n 0, 1) := dec_42 (bv_56 (i := 8) rfl)
theorem dW_1353 : decode code 1353 = .ok (.iload 4, 2) := dec_21 (bv_56 (i := 9) rfl) (bv_56 (i := 10) rfl) rfl
theorem dW_1355 : decode code 1355 = .ok (.iconst 3, 1) := dec_6 (bv_56 (i := 11) rfl)
theorem dW_1356 : decode code 1356 = .ok (.iadd, 1) := dec_96 (bv_56 (i := 12) rfl)
theorem dW_1357 : decode code 1357 = .ok (.iaload, 1) := dec_46 (bv_56 (i := 13) rfl)
theorem dW_1358 : decode code 1358 = .ok (.aload_n 3, 1) := dec_45 (bv_56 (i := 14) rfl)
theorem dW_1359 : decode code 1359 = .ok (.invokestatic 256, 3) := dec_184 (bv_56 (i := 15) rfl) (bv_56 (i := 16) rfl) (bv_56 (i := 17) rfl) rfl
theorem dW_1362 : decode code 1362 = .ok (.istore 5, 2) := dec_54 (bv_56 (i := 18) rfl) (bv_56 (i := 19) rfl) rfl
theorem dW_1364 : decode code 1364 = .ok (.aload_n 2, 1) := dec_44 (bv_56 (i := 20) rfl)
theorem dW_1365 : decode code 1365 = .ok (.aload_n 0, 1) := dec_42 (bv_56 (i := 21) rfl)
theorem dW_1366 : decode code 1366 = .ok (.iload 4, 2) := dec_21 (bv_56 (i := 22) rfl) (bv_56 (i := 23) rfl) rfl
theorem dW_1368 : decode code 1368 = .ok (.iconst 1, 1) := dec_4 (bv_57 (i := 0) rfl)
theorem dW_1369 : decode code 1369 = .ok (.iadd, 1) := dec_96 (bv_57 (i := 1) rfl)
theorem dW_1370 : decode code 1370 = .ok (.iaload, 1) := dec_46 (bv_57 (i := 2) rfl)
theorem dW_1371 : decode code 1371 = .ok (.aload_n 0, 1) := dec_42 (bv_57 (i := 3) rfl)
theorem dW_1372 : decode code 1372 = .ok (.iload 4, 2) := dec_21 (bv_57 (i := 4) rfl) (bv_57 (i := 5) rfl) rfl
theorem dW_1374 : decode code 1374 = .ok (.iconst 2, 1) := dec_5 (bv_57 (i := 6) rfl)
theorem dW_1375 : decode code 1375 = .ok (.iadd, 1) := dec_96 (bv_57 (i := 7) rfl)
theorem dW_1376 : decode code 1376 = .ok (.iaload, 1) := dec_46 (bv_57 (i := 8) rfl)
theorem dW_1377 : decode code 1377 = .ok (.aload_n 0, 1) := dec_42 (bv_57 (i := 9) rfl)
theorem dW_1378 : decode code 1378 = .ok (.iload 4, 2) := dec_21 (bv_57 (i := 10) rfl) (bv_57 (i := 11) rfl) rfl
theorem dW_1380 : decode code 1380 = .ok (.iconst 3, 1) := dec_6 (bv_57 (i := 12) rfl)
theorem dW_1381 : decode code 1381 = .ok (.iadd, 1) := dec_96 (bv_57 (i := 13) rfl)
theorem dW_1382 : decode code 1382 = .ok (.iaload, 1) := dec_46 (bv_57 (i := 14) rfl)
theorem dW_1383 : decode code 1383 = .ok (.invokevirtual 258, 3) := dec_182 (bv_57 (i := 15) rfl) (bv_57 (i := 16) rfl) (bv_57 (i := 17) rfl) rfl
theorem dW_1386 : decode code 1386 = .ok (.istore 6, 2) := dec_54 (bv_57 (i := 18) rfl) (bv_57 (i := 19) rfl) rfl
theorem dW_1388 : decode code 1388 = .ok (.goto 968, 3) := dec_167 (bv_57 (i := 20) rfl) (bv_57 (i := 21) rfl) (bv_57 (i := 22) rfl) (by decide +kernel)
theorem dW_1391 : decode code 1391 = .ok (.aload_n 1, 1) := dec_43 (bv_57 (i := 23) rfl)
theorem dW_1392 : decode code 1392 = .ok (.aload_n 0, 1) := dec_42 (bv_58 (i := 0) rfl)
theorem dW_1393 : decode code 1393 = .ok (.iload 4, 2) := dec_21 (bv_58 (i := 1) rfl) (bv_58 (i := 2) rfl) rfl
theorem dW_1395 : decode code 1395 = .ok (.iconst 1, 1) := dec_4 (bv_58 (i := 3) rfl)
theorem dW_1396 : decode code 1396 = .ok (.iadd, 1) := dec_96 (bv_58 (i := 4) rfl)
theorem dW_1397 : decode code 1397 = .ok (.iaload, 1) := dec_46 (bv_58 (i := 5) rfl)
theorem dW_1398 : decode code 1398 = .ok (.aload_n 3, 1) := dec_45 (bv_58 (i := 6) rfl)
theorem dW_1399 : decode code 1399 = .ok (.invokestatic 259, 3) := dec_184 (bv_58 (i := 7) rfl) (bv_58 (i := 8) rfl) (bv_58 (i := 9) rfl) rfl
theorem dW_1402 : decode code 1402 = .ok (.istore 5, 2) := dec_54 (bv_58 (i := 10) rfl) (bv_58 (i := 11) rfl) rfl
theorem dW_1404 : decode code 1404 = .ok (.aload_n 2, 1) := dec_44 (bv_58 (i := 12) rfl)
theorem dW_1405 : decode code 1405 = .ok (.aload_n 0, 1) := dec_42 (bv_58 (i := 13) rfl)
theorem dW_1406 : decode code 1406 = .ok (.iload 4, 2) := dec_21 (bv_58 (i := 14) rfl) (bv_58 (i := 15) rfl) rfl
theorem dW_1408 : decode code 1408 = .ok (.iconst 1, 1) := dec_4 (bv_58 (i := 16) rfl)
theorem dW_1409 : decode code 1409 = .ok (.iadd, 1) := dec_96 (bv_58 (i := 17) rfl)
theorem dW_1410 : decode code 1410 = .ok (.iaload, 1) := dec_46 (bv_58 (i := 18) rfl)
theorem dW_1411 : decode code 1411 = .ok (.invokevirtual 261, 3) := dec_182 (bv_58 (i := 19) rfl) (bv_58 (i := 20) rfl) (bv_58 (i := 21) rfl) rfl
theorem dW_1414 : decode code 1414 = .ok (.istore 6, 2) := dec_54 (bv_58 (i := 22) rfl) (bv_58 (i := 23) rfl) rfl
theorem dW_1416 : decode code 1416 = .ok (.goto 940, 3) := dec_167 (bv_59 (i := 0) rfl) (bv_59 (i := 1) rfl) (bv_59 (i := 2) rfl) (by decide +kernel)
theorem dW_1419 : decode code 1419 = .ok (.aload_n 1, 1) := dec_43 (bv_59 (i := 3) rfl)
theorem dW_1420 : decode code 1420 = .ok (.aload_n 0, 1) := dec_42 (bv_59 (i := 4) rfl)
theorem dW_1421 : decode code 1421 = .ok (.iload 4, 2) := dec_21 (bv_59 (i := 5) rfl) (bv_59 (i := 6) rfl) rfl
theorem dW_1423 : decode code 1423 = .ok (.iconst 1, 1) := dec_4 (bv_59 (i := 7) rfl)
theorem dW_1424 : decode code 1424 = .ok (.iadd, 1) := dec_96 (bv_59 (i := 8) rfl)
theorem dW_1425 : decode code 1425 = .ok (.iaload, 1) := dec_46 (bv_59 (i := 9) rfl)
theorem dW_1426 : decode code 1426 = .ok (.aload_n 0, 1) := dec_42 (bv_59 (i := 10) rfl)
theorem dW_1427 : decode code 1427 = .ok (.iload 4, 2) := dec_21 (bv_59 (i := 11) rfl) (bv_59 (i := 12) rfl) rfl
theorem dW_1429 : decode code 1429 = .ok (.iconst 2, 1) := dec_5 (bv_59 (i := 13) rfl)
theorem dW_1430 : decode code 1430 = .ok (.iadd, 1) := dec_96 (bv_59 (i := 14) rfl)
theorem dW_1431 : decode code 1431 = .ok (.iaload, 1) := dec_46 (bv_59 (i := 15) rfl)
theorem dW_1432 : decode code 1432 = .ok (.ifCond .eq 7, 3) := dec_153 (bv_59 (i := 16) rfl) (bv_59 (i := 17) rfl) (bv_59 (i := 18) rfl) (by decide +kernel)
theorem dW_1435 : decode code 1435 = .ok (.iconst 1, 1) := dec_4 (bv_59 (i := 19) rfl)
theorem dW_1436 : decode code 1436 = .ok (.goto 4, 3) := dec_167 (bv_59 (i := 20) rfl) (bv_59 (i := 21) rfl) (bv_59 (i := 22) rfl) (by decide +kernel)
theorem dW_1439 : decode code 1439 = .ok (.iconst 0, 1) := dec_3 (bv_59 (i := 23) rfl)
theorem dW_1440 : decode code 1440 = .ok (.aload_n 3, 1) := dec_45 (bv_60 (i := 0) rfl)
theorem dW_1441 : decode code 1441 = .ok (.invokestatic 262, 3) := dec_184 (bv_60 (i := 1) rfl) (bv_60 (i := 2) rfl) (bv_60 (i := 3) rfl) rfl
theorem dW_1444 : decode code 1444 = .ok (.istore 5, 2) := dec_54 (bv_60 (i := 4) rfl) (bv_60 (i := 5) rfl) rfl
theorem dW_1446 : decode code 1446 = .ok (.aload_n 2, 1) := dec_44 (bv_60 (i := 6) rfl)
theorem dW_1447 : decode code 1447 = .ok (.aload_n 0, 1) := dec_42 (bv_60 (i := 7) rfl)
theorem dW_1448 : decode code 1448 = .ok (.iload 4, 2) := dec_21 (bv_60 (i := 8) rfl) (bv_60 (i := 9) rfl) rfl
theorem dW_1450 : decode code 1450 = .ok (.iconst 1, 1) := dec_4 (bv_60 (i := 10) rfl)
theorem dW_1451 : decode code 1451 = .ok (.iadd, 1) := dec_96 (bv_60 (i := 11) rfl)
theorem dW_1452 : decode code 1452 = .ok (.iaload, 1) := dec_46 (bv_60 (i := 12) rfl)
theorem dW_1453 : decode code 1453 = .ok (.aload_n 0, 1) := dec_42 (bv_60 (i := 13) rfl)
theorem dW_1454 : decode code 1454 = .ok (.iload 4, 2) := dec_21 (bv_60 (i := 14) rfl) (bv_60 (i := 15) rfl) rfl
theorem dW_1456 : decode code 1456 = .ok (.iconst 2, 1) := dec_5 (bv_60 (i := 16) rfl)
theorem dW_1457 : decode code 1457 = .ok (.iadd, 1) := dec_96 (bv_60 (i := 17) rfl)
theorem dW_1458 : decode code 1458 = .ok (.iaload, 1) := dec_46 (bv_60 (i := 18) rfl)
theorem dW_1459 : decode code 1459 = .ok (.ifCond .eq 7, 3) := dec_153 (bv_60 (i := 19) rfl) (bv_60 (i := 20) rfl) (bv_60 (i := 21) rfl) (by decide +kernel)
theorem dW_1462 : decode code 1462 = .ok (.iconst 1, 1) := dec_4 (bv_60 (i := 22) rfl)
theorem dW_1463 : decode code 1463 = .ok (.goto 4, 3) := dec_167 (bv_60 (i := 23) rfl) (bv_61 (i := 0) rfl) (bv_61 (i := 1) rfl) (by decide +kernel)
theorem dW_1466 : decode code 1466 = .ok (.iconst 0, 1) := dec_3 (bv_61 (i := 2) rfl)
theorem dW_1467 : decode code 1467 = .ok (.invokevirtual 264, 3) := dec_182 (bv_61 (i := 3) rfl) (bv_61 (i := 4) rfl) (bv_61 (i := 5) rfl) rfl
theorem dW_1470 : decode code 1470 = .ok (.istore 6, 2) := dec_54 (bv_61 (i := 6) rfl) (bv_61 (i := 7) rfl) rfl
theorem dW_1472 : decode code 1472 = .ok (.goto 884, 3) := dec_167 (bv_61 (i := 8) rfl) (bv_61 (i := 9) rfl) (bv_61 (i := 10) rfl) (by decide +kernel)
theorem dW_1475 : decode code 1475 = .ok (.aload_n 1, 1) := dec_43 (bv_61 (i := 11) rfl)
theorem dW_1476 : decode code 1476 = .ok (.aload_n 0, 1) := dec_42 (bv_61 (i := 12) rfl)
theorem dW_1477 : decode code 1477 = .ok (.iload 4, 2) := dec_21 (bv_61 (i := 13) rfl) (bv_61 (i := 14) rfl) rfl
theorem dW_1479 : decode code 1479 = .ok (.iconst 1, 1) := dec_4 (bv_61 (i := 15) rfl)
theorem dW_1480 : decode code 1480 = .ok (.iadd, 1) := dec_96 (bv_61 (i := 16) rfl)
theorem dW_1481 : decode code 1481 = .ok (.iaload, 1) := dec_46 (bv_61 (i := 17) rfl)
theorem dW_1482 : decode code 1482 = .ok (.aload_n 3, 1) := dec_45 (bv_61 (i := 18) rfl)
theorem dW_1483 : decode code 1483 = .ok (.invokestatic 265, 3) := dec_184 (bv_61 (i := 19) rfl) (bv_61 (i := 20) rfl) (bv_61 (i := 21) rfl) rfl
theorem dW_1486 : decode code 1486 = .ok (.istore 5, 2) := dec_54 (bv_61 (i := 22) rfl) (bv_61 (i := 23) rfl) rfl
theorem dW_1488 : decode code 1488 = .ok (.aload_n 2, 1) := dec_44 (bv_62 (i := 0) rfl)
theorem dW_1489 : decode code 1489 = .ok (.aload_n 0, 1) := dec_42 (bv_62 (i := 1) rfl)
theorem dW_1490 : decode code 1490 = .ok (.iload 4, 2) := dec_21 (bv_62 (i := 2) rfl) (bv_62 (i := 3) rfl) rfl
theorem dW_1492 : decode code 1492 = .ok (.iconst 1, 1) := dec_4 (bv_62 (i := 4) rfl)
theorem dW_1493 : decode code 1493 = .ok (.iadd, 1) := dec_96 (bv_62 (i := 5) rfl)
theorem dW_1494 : decode code 1494 = .ok (.iaload, 1) := dec_46 (bv_62 (i := 6) rfl)
theorem dW_1495 : decode code 1495 = .ok (.invokevirtual 267, 3) := dec_182 (bv_62 (i := 7) rfl) (bv_62 (i := 8) rfl) (bv_62 (i := 9) rfl) rfl
theorem dW_1498 : decode code 1498 = .ok (.istore 6, 2) := dec_54 (bv_62 (i := 10) rfl) (bv_62 (i := 11) rfl) rfl
theorem dW_1500 : decode code 1500 = .ok (.goto 856, 3) := dec_167 (bv_62 (i := 12) rfl) (bv_62 (i := 13) rfl) (bv_62 (i := 14) rfl) (by decide +kernel)
theorem dW_1503 : decode code 1503 = .ok (.aload_n 1, 1) := dec_43 (bv_62 (i := 15) rfl)
theorem dW_1504 : decode code 1504 = .ok (.aload_n 0, 1) := dec_42 (bv_62 (i := 16) rfl)
theorem dW_1505 : decode code 1505 = .ok (.iload 4, 2) := dec_21 (bv_62 (i := 17) rfl) (bv_62 (i := 18) rfl) rfl
theorem dW_1507 : decode code 1507 = .ok (.iconst 1, 1) := dec_4 (bv_62 (i := 19) rfl)
theorem dW_1508 : decode code 1508 = .ok (.iadd, 1) := dec_96 (bv_62 (i := 20) rfl)
theorem dW_1509 : decode code 1509 = .ok (.iaload, 1) := dec_46 (bv_62 (i := 21) rfl)
theorem dW_1510 : decode code 1510 = .ok (.aload_n 0, 1) := dec_42 (bv_62 (i := 22) rfl)
theorem dW_1511 : decode code 1511 = .ok (.iload 4, 2) := dec_21 (bv_62 (i := 23) rfl) (bv_63 (i := 0) rfl) rfl
theorem dW_1513 : decode code 1513 = .ok (.iconst 2, 1) := dec_5 (bv_63 (i := 1) rfl)
theorem dW_1514 : decode code 1514 = .ok (.iadd, 1) := dec_96 (bv_63 (i := 2) rfl)
theorem dW_1515 : decode code 1515 = .ok (.iaload, 1) := dec_46 (bv_63 (i := 3) rfl)
theorem dW_1516 : decode code 1516 = .ok (.aload_n 3, 1) := dec_45 (bv_63 (i := 4) rfl)
theorem dW_1517 : decode code 1517 = .ok (.invokestatic 268, 3) := dec_184 (bv_63 (i := 5) rfl) (bv_63 (i := 6) rfl) (bv_63 (i := 7) rfl) rfl
theorem dW_1520 : decode code 1520 = .ok (.istore 5, 2) := dec_54 (bv_63 (i := 8) rfl) (bv_63 (i := 9) rfl) rfl
theorem dW_1522 : decode code 1522 = .ok (.aload_n 2, 1) := dec_44 (bv_63 (i := 10) rfl)
theorem dW_1523 : decode code 1523 = .ok (.aload_n 0, 1) := dec_42 (bv_63 (i := 11) rfl)
theorem dW_1524 : decode code 1524 = .ok (.iload 4, 2) := dec_21 (bv_63 (i := 12) rfl) (bv_63 (i := 13) rfl) rfl
theorem dW_1526 : decode code 1526 = .ok (.iconst 1, 1) := dec_4 (bv_63 (i := 14) rfl)
theorem dW_1527 : decode code 1527 = .ok (.iadd, 1) := dec_96 (bv_63 (i := 15) rfl)
theorem dW_1528 : decode code 1528 = .ok (.iaload, 1) := dec_46 (bv_63 (i := 16) rfl)
theorem dW_1529 : decode code 1529 = .ok (.aload_n 0, 1) := dec_42 (bv_63 (i := 17) rfl)
theorem dW_1530 : decode code 1530 = .ok (.iload 4, 2) := dec_21 (bv_63 (i := 18) rfl) (bv_63 (i := 19) rfl) rfl
theorem dW_1532 : decode code 1532 = .ok (.iconst 2, 1) := dec_5 (bv_63 (i := 20) rfl)
theorem dW_1533 : decode code 1533 = .ok (.iadd, 1) := dec_96 (bv_63 (i := 21) rfl)
theorem dW_1534 : decode code 1534 = .ok (.iaload, 1) := dec_46 (bv_63 (i := 22) rfl)
theorem dW_1535 : decode code 1535 = .ok (.invokevirtual 270, 3) := dec_182 (bv_63 (i := 23) rfl) (bv_64 (i := 0) rfl) (bv_64 (i := 1) rfl) rfl
theorem dW_1538 : decode code 1538 = .ok (.istore 6, 2) := dec_54 (bv_64 (i := 2) rfl) (bv_64 (i := 3) rfl) rfl
theorem dW_1540 : decode code 1540 = .ok (.goto 816, 3) := dec_167 (bv_64 (i := 4) rfl) (bv_64 (i := 5) rfl) (bv_64 (i := 6) rfl) (by decide +kernel)
theorem dW_1543 : decode code 1543 = .ok (.aload_n 1, 1) := dec_43 (bv_64 (i := 7) rfl)
theorem dW_1544 : decode code 1544 = .ok (.aload_n 0, 1) := dec_42 (bv_64 (i := 8) rfl)
theorem dW_1545 : decode code 1545 = .ok (.iload 4, 2) := dec_21 (bv_64 (i := 9) rfl) (bv_64 (i := 10) rfl) rfl
theorem dW_1547 : decode code 1547 = .ok (.iconst 1, 1) := dec_4 (bv_64 (i := 11) rfl)
theorem dW_1548 : decode code 1548 = .ok (.iadd, 1) := dec_96 (bv_64 (i := 12) rfl)
theorem dW_1549 : decode code 1549 = .ok (.iaload, 1) := dec_46 (bv_64 (i := 13) rfl)
theorem dW_1550 : decode code 1550 = .ok (.aload_n 0, 1) := dec_42 (bv_64 (i := 14) rfl)
theorem dW_1551 : decode code 1551 = .ok (.iload 4, 2) := dec_21 (bv_64 (i := 15) rfl) (bv_64 (i := 16) rfl) rfl
theorem dW_1553 : decode code 1553 = .ok (.iconst 2, 1) := dec_5 (bv_64 (i := 17) rfl)
theorem dW_1554 : decode code 1554 = .ok (.iadd, 1) := dec_96 (bv_64 (i := 18) rfl)
theorem dW_1555 : decode code 1555 = .ok (.iaload, 1) := dec_46 (bv_64 (i := 19) rfl)
theorem dW_1556 : decode code 1556 = .ok (.aload_n 3, 1) := dec_45 (bv_64 (i := 20) rfl)
theorem dW_1557 : decode code 1557 = .ok (.invokestatic 271, 3) := dec_184 (bv_64 (i := 21) rfl) (bv_64 (i := 22) rfl) (bv_64 (i := 23) rfl) rfl
theorem dW_1560 : decode code 1560 = .ok (.istore 5, 2) := dec_54 (bv_65 (i := 0) rfl) (bv_65 (i := 1) rfl) rfl
theorem dW_1562 : decode code 1562 = .ok (.aload_n 2, 1) := dec_44 (bv_65 (i := 2) rfl)
theorem dW_1563 : decode code 1563 = .ok (.aload_n 0, 1) := dec_42 (bv_65 (i := 3) rfl)
theorem dW_1564 : decode code 1564 = .ok (.iload 4, 2) := dec_21 (bv_65 (i := 4) rfl) (bv_65 (i := 5) rfl) rfl
theorem dW_1566 : decode code 1566 = .ok (.iconst 1, 1) := dec_4 (bv_65 (i := 6) rfl)
theorem dW_1567 : decode code 1567 = .ok (.iadd, 1) := dec_96 (bv_65 (i := 7) rfl)
theorem dW_1568 : decode code 1568 = .ok (.iaload, 1) := dec_46 (bv_65 (i := 8) rfl)
theorem dW_1569 : decode code 1569 = .ok (.aload_n 0, 1) := dec_42 (bv_65 (i := 9) rfl)
theorem dW_1570 : decode code 1570 = .ok (.iload 4, 2) := dec_21 (bv_65 (i := 10) rfl) (bv_65 (i := 11) rfl) rfl
theorem dW_1572 : decode code 1572 = .ok (.iconst 2, 1) := dec_5 (bv_65 (i := 12) rfl)
theorem dW_1573 : decode code 1573 = .ok (.iadd, 1) := dec_96 (bv_65 (i := 13) rfl)
theorem dW_1574 : decode code 1574 = .ok (.iaload, 1) := dec_46 (bv_65 (i := 14) rfl)
theorem dW_1575 : decode code 1575 = .ok (.invokevirtual 273, 3) := dec_182 (bv_65 (i := 15) rfl) (bv_65 (i := 16) rfl) (bv_65 (i := 17) rfl) rfl
theorem dW_1578 : decode code 1578 = .ok (.istore 6, 2) := dec_54 (bv_65 (i := 18) rfl) (bv_65 (i := 19) rfl) rfl
theorem dW_1580 : decode code 1580 = .ok (.goto 776, 3) := dec_167 (bv_65 (i := 20) rfl) (bv_65 (i := 21) rfl) (bv_65 (i := 22) rfl) (by decide +kernel)
theorem dW_1583 : decode code 1583 = .ok (.aload_n 1, 1) := dec_43 (bv_65 (i := 23) rfl)
theorem dW_1584 : decode code 1584 = .ok (.aload_n 0, 1) := dec_42 (bv_66 (i := 0) rfl)
theorem dW_1585 : decode code 1585 = .ok (.iload 4, 2) := dec_21 (bv_66 (i := 1) rfl) (bv_66 (i := 2) rfl) rfl
theorem dW_1587 : decode code 1587 = .ok (.iconst 1, 1) := dec_4 (bv_66 (i := 3) rfl)
theorem dW_1588 : decode code 1588 = .ok (.iadd, 1) := dec_96 (bv_66 (i := 4) rfl)
theorem dW_1589 : decode code 1589 = .ok (.iaload, 1) := dec_46 (bv_66 (i := 5) rfl)
theorem dW_1590 : decode code 1590 = .ok (.aload_n 3, 1) := dec_45 (bv_66 (i := 6) rfl)
theorem dW_1591 : decode code 1591 = .ok (.invokestatic 274, 3) := dec_184 (bv_66 (i := 7) rfl) (bv_66 (i := 8) rfl) (bv_66 (i := 9) rfl) rfl
theorem dW_1594 : decode code 1594 = .ok (.istore 5, 2) := dec_54 (bv_66 (i := 10) rfl) (bv_66 (i := 11) rfl) rfl
theorem dW_1596 : decode code 1596 = .ok (.aload_n 2, 1) := dec_44 (bv_66 (i := 12) rfl)
theorem dW_1597 : decode code 1597 = .ok (.aload_n 0, 1) := dec_42 (bv_66 (i := 13) rfl)
theorem dW_1598 : decode code 1598 = .ok (.iload 4, 2) := dec_21 (bv_66 (i := 14) rfl) (bv_66 (i := 15) rfl) rfl
theorem dW_1600 : decode code 1600 = .ok (.iconst 1, 1) := dec_4 (bv_66 (i := 16) rfl)
theorem dW_1601 : decode code 1601 = .ok (.iadd, 1) := dec_96 (bv_66 (i := 17) rfl)
theorem dW_1602 : decode code 1602 = .ok (.iaload, 1) := dec_46 (bv_66 (i := 18) rfl)
theorem dW_1603 : decode code 1603 = .ok (.invokevirtual 276, 3) := dec_182 (bv_66 (i := 19) rfl) (bv_66 (i := 20) rfl) (bv_66 (i := 21) rfl) rfl
theorem dW_1606 : decode code 1606 = .ok (.istore 6, 2) := dec_54 (bv_66 (i := 22) rfl) (bv_66 (i := 23) rfl) rfl
theorem dW_1608 : decode code 1608 = .ok (.goto 748, 3) := dec_167 (bv_67 (i := 0) rfl) (bv_67 (i := 1) rfl) (bv_67 (i := 2) rfl) (by decide +kernel)
theorem dW_1611 : decode code 1611 = .ok (.aload_n 1, 1) := dec_43 (bv_67 (i := 3) rfl)
theorem dW_1612 : decode code 1612 = .ok (.aload_n 0, 1) := dec_42 (bv_67 (i := 4) rfl)
theorem dW_1613 : decode code 1613 = .ok (.iload 4, 2) := dec_21 (bv_67 (i := 5) rfl) (bv_67 (i := 6) rfl) rfl
theorem dW_1615 : decode code 1615 = .ok (.iconst 1, 1) := dec_4 (bv_67 (i := 7) rfl)
theorem dW_1616 : decode code 1616 = .ok (.iadd, 1) := dec_96 (bv_67 (i := 8) rfl)
theorem dW_1617 : decode code 1617 = .ok (.iaload, 1) := dec_46 (bv_67 (i := 9) rfl)
theorem dW_1618 : decode code 1618 = .ok (.aload_n 3, 1) := dec_45 (bv_67 (i := 10) rfl)
theorem dW_1619 : decode code 1619 = .ok (.invokestatic 277, 3) := dec_184 (bv_67 (i := 11) rfl) (bv_67 (i := 12) rfl) (bv_67 (i := 13) rfl) rfl
theorem dW_1622 : decode code 1622 = .ok (.istore 5, 2) := dec_54 (bv_67 (i := 14) rfl) (bv_67 (i := 15) rfl) rfl
theorem dW_1624 : decode code 1624 = .ok (.aload_n 2, 1) := dec_44 (bv_67 (i := 16) rfl)
theorem dW_1625 : decode code 1625 = .ok (.aload_n 0, 1) := dec_42 (bv_67 (i := 17) rfl)
theorem dW_1626 : decode code 1626 = .ok (.iload 4, 2) := dec_21 (bv_67 (i := 18) rfl) (bv_67 (i := 19) rfl) rfl
theorem dW_1628 : decode code 1628 = .ok (.iconst 1, 1) := dec_4 (bv_67 (i := 20) rfl)
theorem dW_1629 : decode code 1629 = .ok (.iadd, 1) := dec_96 (bv_67 (i := 21) rfl)
theorem dW_1630 : decode code 1630 = .ok (.iaload, 1) := dec_46 (bv_67 (i := 22) rfl)
theorem dW_1631 : decode code 1631 = .ok (.invokevirtual 279, 3) := dec_182 (bv_67 (i := 23) rfl) (bv_68 (i := 0) rfl) (bv_68 (i := 1) rfl) rfl
theorem dW_1634 : decode code 1634 = .ok (.istore 6, 2) := dec_54 (bv_68 (i := 2) rfl) (bv_68 (i := 3) rfl) rfl
theorem dW_1636 : decode code 1636 = .ok (.goto 720, 3) := dec_167 (bv_68 (i := 4) rfl) (bv_68 (i := 5) rfl) (bv_68 (i := 6) rfl) (by decide +kernel)
theorem dW_1639 : decode code 1639 = .ok (.aload_n 1, 1) := dec_43 (bv_68 (i := 7) rfl)
theorem dW_1640 : decode code 1640 = .ok (.aload_n 0, 1) := dec_42 (bv_68 (i := 8) rfl)
theorem dW_1641 : decode code 1641 = .ok (.iload 4, 2) := dec_21 (bv_68 (i := 9) rfl) (bv_68 (i := 10) rfl) rfl
theorem dW_1643 : decode code 1643 = .ok (.iconst 1, 1) := dec_4 (bv_68 (i := 11) rfl)
theorem dW_1644 : decode code 1644 = .ok (.iadd, 1) := dec_96 (bv_68 (i := 12) rfl)
theorem dW_1645 : decode code 1645 = .ok (.iaload, 1) := dec_46 (bv_68 (i := 13) rfl)
theorem dW_1646 : decode code 1646 = .ok (.aload_n 3, 1) := dec_45 (bv_68 (i := 14) rfl)
theorem dW_1647 : decode code 1647 = .ok (.invokestatic 280, 3) := dec_184 (bv_68 (i := 15) rfl) (bv_68 (i := 16) rfl) (bv_68 (i := 17) rfl) rfl
theorem dW_1650 : decode code 1650 = .ok (.istore 5, 2) := dec_54 (bv_68 (i := 18) rfl) (bv_68 (i := 19) rfl) rfl
theorem dW_1652 : decode code 1652 = .ok (.aload_n 2, 1) := dec_44 (bv_68 (i := 20) rfl)
theorem dW_1653 : decode code 1653 = .ok (.aload_n 0, 1) := dec_42 (bv_68 (i := 21) rfl)
theorem dW_1654 : decode code 1654 = .ok (.iload 4, 2) := dec_21 (bv_68 (i := 22) rfl) (bv_68 (i := 23) rfl) rfl
theorem dW_1656 : decode code 1656 = .ok (.iconst 1, 1) := dec_4 (bv_69 (i := 0) rfl)
theorem dW_1657 : decode code 1657 = .ok (.iadd, 1) := dec_96 (bv_69 (i := 1) rfl)
theorem dW_1658 : decode code 1658 = .ok (.iaload, 1) := dec_46 (bv_69 (i := 2) rfl)
theorem dW_1659 : decode code 1659 = .ok (.invokevirtual 282, 3) := dec_182 (bv_69 (i := 3) rfl) (bv_69 (i := 4) rfl) (bv_69 (i := 5) rfl) rfl
theorem dW_1662 : decode code 1662 = .ok (.istore 6, 2) := dec_54 (bv_69 (i := 6) rfl) (bv_69 (i := 7) rfl) rfl
theorem dW_1664 : decode code 1664 = .ok (.goto 692, 3) := dec_167 (bv_69 (i := 8) rfl) (bv_69 (i := 9) rfl) (bv_69 (i := 10) rfl) (by decide +kernel)
theorem dW_1667 : decode code 1667 = .ok (.aload_n 1, 1) := dec_43 (bv_69 (i := 11) rfl)
theorem dW_1668 : decode code 1668 = .ok (.aload_n 0, 1) := dec_42 (bv_69 (i := 12) rfl)
theorem dW_1669 : decode code 1669 = .ok (.iload 4, 2) := dec_21 (bv_69 (i := 13) rfl) (bv_69 (i := 14) rfl) rfl
theorem dW_1671 : decode code 1671 = .ok (.iconst 1, 1) := dec_4 (bv_69 (i := 15) rfl)
theorem dW_1672 : decode code 1672 = .ok (.iadd, 1) := dec_96 (bv_69 (i := 16) rfl)
theorem dW_1673 : decode code 1673 = .ok (.iaload, 1) := dec_46 (bv_69 (i := 17) rfl)
theorem dW_1674 : decode code 1674 = .ok (.aload_n 0, 1) := dec_42 (bv_69 (i := 18) rfl)
theorem dW_1675 : decode code 1675 = .ok (.iload 4, 2) := dec_21 (bv_69 (i := 19) rfl) (bv_69 (i := 20) rfl) rfl
theorem dW_1677 : decode code 1677 = .ok (.iconst 2, 1) := dec_5 (bv_69 (i := 21) rfl)
theorem dW_1678 : decode code 1678 = .ok (.iadd, 1) := dec_96 (bv_69 (i := 22) rfl)
theorem dW_1679 : decode code 1679 = .ok (.iaload, 1) := dec_46 (bv_69 (i := 23) rfl)
theorem dW_1680 : decode code 1680 = .ok (.aload_n 0, 1) := dec_42 (bv_70 (i := 0) rfl)
theorem dW_1681 : decode code 1681 = .ok (.iload 4, 2) := dec_21 (bv_70 (i := 1) rfl) (bv_70 (i := 2) rfl) rfl
theorem dW_1683 : decode code 1683 = .ok (.iconst 3, 1) := dec_6 (bv_70 (i := 3) rfl)
theorem dW_1684 : decode code 1684 = .ok (.iadd, 1) := dec_96 (bv_70 (i := 4) rfl)
theorem dW_1685 : decode code 1685 = .ok (.iaload, 1) := dec_46 (bv_70 (i := 5) rfl)
theorem dW_1686 : decode code 1686 = .ok (.aload_n 3, 1) := dec_45 (bv_70 (i := 6) rfl)
theorem dW_1687 : decode code 1687 = .ok (.invokestatic 283, 3) := dec_184 (bv_70 (i := 7) rfl) (bv_70 (i := 8) rfl) (bv_70 (i := 9) rfl) rfl
theorem dW_1690 : decode code 1690 = .ok (.istore 5, 2) := dec_54 (bv_70 (i := 10) rfl) (bv_70 (i := 11) rfl) rfl
theorem dW_1692 : decode code 1692 = .ok (.aload_n 2, 1) := dec_44 (bv_70 (i := 12) rfl)
theorem dW_1693 : decode code 1693 = .ok (.aload_n 0, 1) := dec_42 (bv_70 (i := 13) rfl)
theorem dW_1694 : decode code 1694 = .ok (.iload 4, 2) := dec_21 (bv_70 (i := 14) rfl) (bv_70 (i := 15) rfl) rfl
theorem dW_1696 : decode code 1696 = .ok (.iconst 1, 1) := dec_4 (bv_70 (i := 16) rfl)
theorem dW_1697 : decode code 1697 = .ok (.iadd, 1) := dec_96 (bv_70 (i := 17) rfl)
theorem dW_1698 : decode code 1698 = .ok (.iaload, 1) := dec_46 (bv_70 (i := 18) rfl)
theorem dW_1699 : decode code 1699 = .ok (.aload_n 0, 1) := dec_42 (bv_70 (i := 19) rfl)
theorem dW_1700 : decode code 1700 = .ok (.iload 4, 2) := dec_21 (bv_70 (i := 20) rfl) (bv_70 (i := 21) rfl) rfl
theorem dW_1702 : decode code 1702 = .ok (.iconst 2, 1) := dec_5 (bv_70 (i := 22) rfl)
theorem dW_1703 : decode code 1703 = .ok (.iadd, 1) := dec_96 (bv_70 (i := 23) rfl)
theorem dW_1704 : decode code 1704 = .ok (.iaload, 1) := dec_46 (bv_71 (i := 0) rfl)
theorem dW_1705 : decode code 1705 = .ok (.aload_n 0, 1) := dec_42 (bv_71 (i := 1) rfl)
theorem dW_1706 : decode code 1706 = .ok (.iload 4, 2) := dec_21 (bv_71 (i := 2) rfl) (bv_71 (i := 3) rfl) rfl
theorem dW_1708 : decode code 1708 = .ok (.iconst 3, 1) := dec_6 (bv_71 (i := 4) rfl)
theorem dW_1709 : decode code 1709 = .ok (.iadd, 1) := dec_96 (bv_71 (i := 5) rfl)
theorem dW_1710 : decode code 1710 = .ok (.iaload, 1) := dec_46 (bv_71 (i := 6) rfl)
theorem dW_1711 : decode code 1711 = .ok (.invokevirtual 285, 3) := dec_182 (bv_71 (i := 7) rfl) (bv_71 (i := 8) rfl) (bv_71 (i := 9) rfl) rfl
theorem dW_1714 : decode code 1714 = .ok (.istore 6, 2) := dec_54 (bv_71 (i := 10) rfl) (bv_71 (i := 11) rfl) rfl
theorem dW_1716 : decode code 1716 = .ok (.goto 640, 3) := dec_167 (bv_71 (i := 12) rfl) (bv_71 (i := 13) rfl) (bv_71 (i := 14) rfl) (by decide +kernel)
theorem dW_1719 : decode code 1719 = .ok (.aload_n 1, 1) := dec_43 (bv_71 (i := 15) rfl)
theorem dW_1720 : decode code 1720 = .ok (.aload_n 0, 1) := dec_42 (bv_71 (i := 16) rfl)
theorem dW_1721 : decode code 1721 = .ok (.iload 4, 2) := dec_21 (bv_71 (i := 17) rfl) (bv_71 (i := 18) rfl) rfl
theorem dW_1723 : decode code 1723 = .ok (.iconst 1, 1) := dec_4 (bv_71 (i := 19) rfl)
theorem dW_1724 : decode code 1724 = .ok (.iadd, 1) := dec_96 (bv_71 (i := 20) rfl)
theorem dW_1725 : decode code 1725 = .ok (.iaload, 1) := dec_46 (bv_71 (i := 21) rfl)
theorem dW_1726 : decode code 1726 = .ok (.aload_n 0, 1) := dec_42 (bv_71 (i := 22) rfl)
theorem dW_1727 : decode code 1727 = .ok (.iload 4, 2) := dec_21 (bv_71 (i := 23) rfl) (bv_72 (i := 0) rfl) rfl
theorem dW_1729 : decode code 1729 = .ok (.iconst 2, 1) := dec_5 (bv_72 (i := 1) rfl)
theorem dW_1730 : decode code 1730 = .ok (.iadd, 1) := dec_96 (bv_72 (i := 2) rfl)
theorem dW_1731 : decode code 1731 = .ok (.iaload, 1) := dec_46 (bv_72 (i := 3) rfl)
theorem dW_1732 : decode code 1732 = .ok (.aload_n 0, 1) := dec_42 (bv_72 (i := 4) rfl)
theorem dW_1733 : decode code 1733 = .ok (.iload 4, 2) := dec_21 (bv_72 (i := 5) rfl) (bv_72 (i := 6) rfl) rfl
theorem dW_1735 : decode code 1735 = .ok (.iconst 3, 1) := dec_6 (bv_72 (i := 7) rfl)
theorem dW_1736 : decode code 1736 = .ok (.iadd, 1) := dec_96 (bv_72 (i := 8) rfl)
theorem dW_1737 : decode code 1737 = .ok (.iaload, 1) := dec_46 (bv_72 (i := 9) rfl)
theorem dW_1738 : decode code 1738 = .ok (.aload_n 3, 1) := dec_45 (bv_72 (i := 10) rfl)
theorem dW_1739 : decode code 1739 = .ok (.invokestatic 286, 3) := dec_184 (bv_72 (i := 11) rfl) (bv_72 (i := 12) rfl) (bv_72 (i := 13) rfl) rfl
theorem dW_1742 : decode code 1742 = .ok (.istore 5, 2) := dec_54 (bv_72 (i := 14) rfl) (bv_72 (i := 15) rfl) rfl
theorem dW_1744 : decode code 1744 = .ok (.aload_n 2, 1) := dec_44 (bv_72 (i := 16) rfl)
theorem dW_1745 : decode code 1745 = .ok (.aload_n 0, 1) := dec_42 (bv_72 (i := 17) rfl)
theorem dW_1746 : decode code 1746 = .ok (.iload 4, 2) := dec_21 (bv_72 (i := 18) rfl) (bv_72 (i := 19) rfl) rfl
theorem dW_1748 : decode code 1748 = .ok (.iconst 1, 1) := dec_4 (bv_72 (i := 20) rfl)
theorem dW_1749 : decode code 1749 = .ok (.iadd, 1) := dec_96 (bv_72 (i := 21) rfl)
theorem dW_1750 : decode code 1750 = .ok (.iaload, 1) := dec_46 (bv_72 (i := 22) rfl)
theorem dW_1751 : decode code 1751 = .ok (.aload_n 0, 1) := dec_42 (bv_72 (i := 23) rfl)
theorem dW_1752 : decode code 1752 = .ok (.iload 4, 2) := dec_21 (bv_73 (i := 0) rfl) (bv_73 (i := 1) rfl) rfl
theorem dW_1754 : decode code 1754 = .ok (.iconst 2, 1) := dec_5 (bv_73 (i := 2) rfl)
theorem dW_1755 : decode code 1755 = .ok (.iadd, 1) := dec_96 (bv_73 (i := 3) rfl)
theorem dW_1756 : decode code 1756 = .ok (.iaload, 1) := dec_46 (bv_73 (i := 4) rfl)
theorem dW_1757 : decode code 1757 = .ok (.aload_n 0, 1) := dec_42 (bv_73 (i := 5) rfl)
theorem dW_1758 : decode code 1758 = .ok (.iload 4, 2) := dec_21 (bv_73 (i := 6) rfl) (bv_73 (i := 7) rfl) rfl
theorem dW_1760 : decode code 1760 = .ok (.iconst 3, 1) := dec_6 (bv_73 (i := 8) rfl)
theorem dW_1761 : decode code 1761 = .ok (.iadd, 1) := dec_96 (bv_73 (i := 9) rfl)
theorem dW_1762 : decode code 1762 = .ok (.iaload, 1) := dec_46 (bv_73 (i := 10) rfl)
theorem dW_1763 : decode code 1763 = .ok (.invokevirtual 288, 3) := dec_182 (bv_73 (i := 11) rfl) (bv_73 (i := 12) rfl) (bv_73 (i := 13) rfl) rfl
theorem dW_1766 : decode code 1766 = .ok (.istore 6, 2) := dec_54 (bv_73 (i := 14) rfl) (bv_73 (i := 15) rfl) rfl
theorem dW_1768 : decode code 1768 = .ok (.goto 588, 3) := dec_167 (bv_73 (i := 16) rfl) (bv_73 (i := 17) rfl) (bv_73 (i := 18) rfl) (by decide +kernel)
theorem dW_1771 : decode code 1771 = .ok (.aload_n 1, 1) := dec_43 (bv_73 (i := 19) rfl)
theorem dW_1772 : decode code 1772 = .ok (.aload_n 0, 1) := dec_42 (bv_73 (i := 20) rfl)
theorem dW_1773 : decode code 1773 = .ok (.iload 4, 2) := dec_21 (bv_73 (i := 21) rfl) (bv_73 (i := 22) rfl) rfl
theorem dW_1775 : decode code 1775 = .ok (.iconst 1, 1) := dec_4 (bv_73 (i := 23) rfl)
theorem dW_1776 : decode code 1776 = .ok (.iadd, 1) := dec_96 (bv_74 (i := 0) rfl)
theorem dW_1777 : decode code 1777 = .ok (.iaload, 1) := dec_46 (bv_74 (i := 1) rfl)
theorem dW_1778 : decode code 1778 = .ok (.aload_n 0, 1) := dec_42 (bv_74 (i := 2) rfl)
theorem dW_1779 : decode code 1779 = .ok (.iload 4, 2) := dec_21 (bv_74 (i := 3) rfl) (bv_74 (i := 4) rfl) rfl
theorem dW_1781 : decode code 1781 = .ok (.iconst 2, 1) := dec_5 (bv_74 (i := 5) rfl)
theorem dW_1782 : decode code 1782 = .ok (.iadd, 1) := dec_96 (bv_74 (i := 6) rfl)
theorem dW_1783 : decode code 1783 = .ok (.iaload, 1) := dec_46 (bv_74 (i := 7) rfl)
theorem dW_1784 : decode code 1784 = .ok (.aload_n 3, 1) := dec_45 (bv_74 (i := 8) rfl)
theorem dW_1785 : decode code 1785 = .ok (.invokestatic 289, 3) := dec_184 (bv_74 (i := 9) rfl) (bv_74 (i := 10) rfl) (bv_74 (i := 11) rfl) rfl
theorem dW_1788 : decode code 1788 = .ok (.istore 5, 2) := dec_54 (bv_74 (i := 12) rfl) (bv_74 (i := 13) rfl) rfl
theorem dW_1790 : decode code 1790 = .ok (.aload_n 2, 1) := dec_44 (bv_74 (i := 14) rfl)
theorem dW_1791 : decode code 1791 = .ok (.aload_n 0, 1) := dec_42 (bv_74 (i := 15) rfl)
theorem dW_1792 : decode code 1792 = .ok (.iload 4, 2) := dec_21 (bv_74 (i := 16) rfl) (bv_74 (i := 17) rfl) rfl
theorem dW_1794 : decode code 1794 = .ok (.iconst 1, 1) := dec_4 (bv_74 (i := 18) rfl)
theorem dW_1795 : decode code 1795 = .ok (.iadd, 1) := dec_96 (bv_74 (i := 19) rfl)
theorem dW_1796 : decode code 1796 = .ok (.iaload, 1) := dec_46 (bv_74 (i := 20) rfl)
theorem dW_1797 : decode code 1797 = .ok (.aload_n 0, 1) := dec_42 (bv_74 (i := 21) rfl)
theorem dW_1798 : decode code 1798 = .ok (.iload 4, 2) := dec_21 (bv_74 (i := 22) rfl) (bv_74 (i := 23) rfl) rfl
theorem dW_1800 : decode code 1800 = .ok (.iconst 2, 1) := dec_5 (bv_75 (i := 0) rfl)
theorem dW_1801 : decode code 1801 = .ok (.iadd, 1) := dec_96 (bv_75 (i := 1) rfl)
theorem dW_1802 : decode code 1802 = .ok (.iaload, 1) := dec_46 (bv_75 (i := 2) rfl)
theorem dW_1803 : decode code 1803 = .ok (.invokevirtual 291, 3) := dec_182 (bv_75 (i := 3) rfl) (bv_75 (i := 4) rfl) (bv_75 (i := 5) rfl) rfl
theorem dW_1806 : decode code 1806 = .ok (.istore 6, 2) := dec_54 (bv_75 (i := 6) rfl) (bv_75 (i := 7) rfl) rfl
theorem dW_1808 : decode code 1808 = .ok (.goto 548, 3) := dec_167 (bv_75 (i := 8) rfl) (bv_75 (i := 9) rfl) (bv_75 (i := 10) rfl) (by decide +kernel)
theorem dW_1811 : decode code 1811 = .ok (.aload_n 1, 1) := dec_43 (bv_75 (i := 11) rfl)
theorem dW_1812 : decode code 1812 = .ok (.aload_n 0, 1) := dec_42 (bv_75 (i := 12) rfl)
theorem dW_1813 : decode code 1813 = .ok (.iload 4, 2) := dec_21 (bv_75 (i := 13) rfl) (bv_75 (i := 14) rfl) rfl
theorem dW_1815 : decode code 1815 = .ok (.iconst 1, 1) := dec_4 (bv_75 (i := 15) rfl)
theorem dW_1816 : decode code 1816 = .ok (.iadd, 1) := dec_96 (bv_75 (i := 16) rfl)
theorem dW_1817 : decode code 1817 = .ok (.iaload, 1) := dec_46 (bv_75 (i := 17) rfl)
theorem dW_1818 : decode code 1818 = .ok (.aload_n 3, 1) := dec_45 (bv_75 (i := 18) rfl)
theorem dW_1819 : decode code 1819 = .ok (.invokestatic 292, 3) := dec_184 (bv_75 (i := 19) rfl) (bv_75 (i := 20) rfl) (bv_75 (i := 21) rfl) rfl
theorem dW_1822 : decode code 1822 = .ok (.istore 5, 2) := dec_54 (bv_75 (i := 22) rfl) (bv_75 (i := 23) rfl) rfl
theorem dW_1824 : decode code 1824 = .ok (.aload_n 2, 1) := dec_44 (bv_76 (i := 0) rfl)
theorem dW_1825 : decode code 1825 = .ok (.aload_n 0, 1) := dec_42 (bv_76 (i := 1) rfl)
theorem dW_1826 : decode code 1826 = .ok (.iload 4, 2) := dec_21 (bv_76 (i := 2) rfl) (bv_76 (i := 3) rfl) rfl
theorem dW_1828 : decode code 1828 = .ok (.iconst 1, 1) := dec_4 (bv_76 (i := 4) rfl)
theorem dW_1829 : decode code 1829 = .ok (.iadd, 1) := dec_96 (bv_76 (i := 5) rfl)
theorem dW_1830 : decode code 1830 = .ok (.iaload, 1) := dec_46 (bv_76 (i := 6) rfl)
theorem dW_1831 : decode code 1831 = .ok (.invokevirtual 294, 3) := dec_182 (bv_76 (i := 7) rfl) (bv_76 (i := 8) rfl) (bv_76 (i := 9) rfl) rfl
theorem dW_1834 : decode code 1834 = .ok (.istore 6, 2) := dec_54 (bv_76 (i := 10) rfl) (bv_76 (i := 11) rfl) rfl
theorem dW_1836 : decode code 1836 = .ok (.goto 520, 3) := dec_167 (bv_76 (i := 12) rfl) (bv_76 (i := 13) rfl) (bv_76 (i := 14) rfl) (by decide +kernel)
theorem dW_1839 : decode code 1839 = .ok (.aload_n 1, 1) := dec_43 (bv_76 (i := 15) rfl)
theorem dW_1840 : decode code 1840 = .ok (.aload_n 0, 1) := dec_42 (bv_76 (i := 16) rfl)
theorem dW_1841 : decode code 1841 = .ok (.iload 4, 2) := dec_21 (bv_76 (i := 17) rfl) (bv_76 (i := 18) rfl) rfl
theorem dW_1843 : decode code 1843 = .ok (.iconst 1, 1) := dec_4 (bv_76 (i := 19) rfl)
theorem dW_1844 : decode code 1844 = .ok (.iadd, 1) := dec_96 (bv_76 (i := 20) rfl)
theorem dW_1845 : decode code 1845 = .ok (.iaload, 1) := dec_46 (bv_76 (i := 21) rfl)
theorem dW_1846 : decode code 1846 = .ok (.aload_n 3, 1) := dec_45 (bv_76 (i := 22) rfl)
theorem dW_1847 : decode code 1847 = .ok (.invokestatic 295, 3) := dec_184 (bv_76 (i := 23) rfl) (bv_77 (i := 0) rfl) (bv_77 (i := 1) rfl) rfl
theorem dW_1850 : decode code 1850 = .ok (.istore 5, 2) := dec_54 (bv_77 (i := 2) rfl) (bv_77 (i := 3) rfl) rfl
theorem dW_1852 : decode code 1852 = .ok (.aload_n 2, 1) := dec_44 (bv_77 (i := 4) rfl)
theorem dW_1853 : decode code 1853 = .ok (.aload_n 0, 1) := dec_42 (bv_77 (i := 5) rfl)
theorem dW_1854 : decode code 1854 = .ok (.iload 4, 2) := dec_21 (bv_77 (i := 6) rfl) (bv_77 (i := 7) rfl) rfl
theorem dW_1856 : decode code 1856 = .ok (.iconst 1, 1) := dec_4 (bv_77 (i := 8) rfl)
theorem dW_1857 : decode code 1857 = .ok (.iadd, 1) := dec_96 (bv_77 (i := 9) rfl)
theorem dW_1858 : decode code 1858 = .ok (.iaload, 1) := dec_46 (bv_77 (i := 10) rfl)
theorem dW_1859 : decode code 1859 = .ok (.invokevirtual 297, 3) := dec_182 (bv_77 (i := 11) rfl) (bv_77 (i := 12) rfl) (bv_77 (i := 13) rfl) rfl
theorem dW_1862 : decode code 1862 = .ok (.istore 6, 2) := dec_54 (bv_77 (i := 14) rfl) (bv_77 (i := 15) rfl) rfl
theorem dW_1864 : decode code 1864 = .ok (.goto 492, 3) := dec_167 (bv_77 (i := 16) rfl) (bv_77 (i := 17) rfl) (bv_77 (i := 18) rfl) (by decide +kernel)
theorem dW_1867 : decode code 1867 = .ok (.aload_n 1, 1) := dec_43 (bv_77 (i := 19) rfl)
theorem dW_1868 : decode code 1868 = .ok (.aload_n 0, 1) := dec_42 (bv_77 (i := 20) rfl)
theorem dW_1869 : decode code 1869 = .ok (.iload 4, 2) := dec_21 (bv_77 (i := 21) rfl) (bv_77 (i := 22) rfl) rfl
theorem dW_1871 : decode code 1871 = .ok (.iconst 1, 1) := dec_4 (bv_77 (i := 23) rfl)
theorem dW_1872 : decode code 1872 = .ok (.iadd, 1) := dec_96 (bv_78 (i := 0) rfl)
theorem dW_1873 : decode code 1873 = .ok (.iaload, 1) := dec_46 (bv_78 (i := 1) rfl)
theorem dW_1874 : decode code 1874 = .ok (.aload_n 0, 1) := dec_42 (bv_78 (i := 2) rfl)
theorem dW_1875 : decode code 1875 = .ok (.iload 4, 2) := dec_21 (bv_78 (i := 3) rfl) (bv_78 (i := 4) rfl) rfl
theorem dW_1877 : decode code 1877 = .ok (.iconst 2, 1) := dec_5 (bv_78 (i := 5) rfl)
theorem dW_1878 : decode code 1878 = .ok (.iadd, 1) := dec_96 (bv_78 (i := 6) rfl)
theorem dW_1879 : decode code 1879 = .ok (.iaload, 1) := dec_46 (bv_78 (i := 7) rfl)
theorem dW_1880 : decode code 1880 = .ok (.ifCond .eq 7, 3) := dec_153 (bv_78 (i := 8) rfl) (bv_78 (i := 9) rfl) (bv_78 (i := 10) rfl) (by decide +kernel)
theorem dW_1883 : decode code 1883 = .ok (.iconst 1, 1) := dec_4 (bv_78 (i := 11) rfl)
theorem dW_1884 : decode code 1884 = .ok (.goto 4, 3) := dec_167 (bv_78 (i := 12) rfl) (bv_78 (i := 13) rfl) (bv_78 (i := 14) rfl) (by decide +kernel)
theorem dW_1887 : decode code 1887 = .ok (.iconst 0, 1) := dec_3 (bv_78 (i := 15) rfl)
theorem dW_1888 : decode code 1888 = .ok (.aload_n 3, 1) := dec_45 (bv_78 (i := 16) rfl)
theorem dW_1889 : decode code 1889 = .ok (.invokestatic 298, 3) := dec_184 (bv_78 (i := 17) rfl) (bv_78 (i := 18) rfl) (bv_78 (i := 19) rfl) rfl
theorem dW_1892 : decode code 1892 = .ok (.istore 5, 2) := dec_54 (bv_78 (i := 20) rfl) (bv_78 (i := 21) rfl) rfl
theorem dW_1894 : decode code 1894 = .ok (.aload_n 2, 1) := dec_44 (bv_78 (i := 22) rfl)
theorem dW_1895 : decode code 1895 = .ok (.aload_n 0, 1) := dec_42 (bv_78 (i := 23) rfl)
theorem dW_1896 : decode code 1896 = .ok (.iload 4, 2) := dec_21 (bv_79 (i := 0) rfl) (bv_79 (i := 1) rfl) rfl
theorem dW_1898 : decode code 1898 = .ok (.iconst 1, 1) := dec_4 (bv_79 (i := 2) rfl)
theorem dW_1899 : decode code 1899 = .ok (.iadd, 1) := dec_96 (bv_79 (i := 3) rfl)
theorem dW_1900 : decode code 1900 = .ok (.iaload, 1) := dec_46 (bv_79 (i := 4) rfl)
theorem dW_1901 : decode code 1901 = .ok (.aload_n 0, 1) := dec_42 (bv_79 (i := 5) rfl)
theorem dW_1902 : decode code 1902 = .ok (.iload 4, 2) := dec_21 (bv_79 (i := 6) rfl) (bv_79 (i := 7) rfl) rfl
theorem dW_1904 : decode code 1904 = .ok (.iconst 2, 1) := dec_5 (bv_79 (i := 8) rfl)
theorem dW_1905 : decode code 1905 = .ok (.iadd, 1) := dec_96 (bv_79 (i := 9) rfl)
theorem dW_1906 : decode code 1906 = .ok (.iaload, 1) := dec_46 (bv_79 (i := 10) rfl)
theorem dW_1907 : decode code 1907 = .ok (.ifCond .eq 7, 3) := dec_153 (bv_79 (i := 11) rfl) (bv_79 (i := 12) rfl) (bv_79 (i := 13) rfl) (by decide +kernel)
theorem dW_1910 : decode code 1910 = .ok (.iconst 1, 1) := dec_4 (bv_79 (i := 14) rfl)
theorem dW_1911 : decode code 1911 = .ok (.goto 4, 3) := dec_167 (bv_79 (i := 15) rfl) (bv_79 (i := 16) rfl) (bv_79 (i := 17) rfl) (by decide +kernel)
theorem dW_1914 : decode code 1914 = .ok (.iconst 0, 1) := dec_3 (bv_79 (i := 18) rfl)
theorem dW_1915 : decode code 1915 = .ok (.invokevirtual 300, 3) := dec_182 (bv_79 (i := 19) rfl) (bv_79 (i := 20) rfl) (bv_79 (i := 21) rfl) rfl
theorem dW_1918 : decode code 1918 = .ok (.istore 6, 2) := dec_54 (bv_79 (i := 22) rfl) (bv_79 (i := 23) rfl) rfl
theorem dW_1920 : decode code 1920 = .ok (.goto 436, 3) := dec_167 (bv_80 (i := 0) rfl) (bv_80 (i := 1) rfl) (bv_80 (i := 2) rfl) (by decide +kernel)
theorem dW_1923 : decode code 1923 = .ok (.aload_n 1, 1) := dec_43 (bv_80 (i := 3) rfl)
theorem dW_1924 : decode code 1924 = .ok (.aload_n 0, 1) := dec_42 (bv_80 (i := 4) rfl)
theorem dW_1925 : decode code 1925 = .ok (.iload 4, 2) := dec_21 (bv_80 (i := 5) rfl) (bv_80 (i := 6) rfl) rfl
theorem dW_1927 : decode code 1927 = .ok (.iconst 1, 1) := dec_4 (bv_80 (i := 7) rfl)
theorem dW_1928 : decode code 1928 = .ok (.iadd, 1) := dec_96 (bv_80 (i := 8) rfl)
theorem dW_1929 : decode code 1929 = .ok (.iaload, 1) := dec_46 (bv_80 (i := 9) rfl)
theorem dW_1930 : decode code 1930 = .ok (.aload_n 0, 1) := dec_42 (bv_80 (i := 10) rfl)
theorem dW_1931 : decode code 1931 = .ok (.iload 4, 2) := dec_21 (bv_80 (i := 11) rfl) (bv_80 (i := 12) rfl) rfl
theorem dW_1933 : decode code 1933 = .ok (.iconst 2, 1) := dec_5 (bv_80 (i := 13) rfl)
theorem dW_1934 : decode code 1934 = .ok (.iadd, 1) := dec_96 (bv_80 (i := 14) rfl)
theorem dW_1935 : decode code 1935 = .ok (.iaload, 1) := dec_46 (bv_80 (i := 15) rfl)
theorem dW_1936 : decode code 1936 = .ok (.aload_n 3, 1) := dec_45 (bv_80 (i := 16) rfl)
theorem dW_1937 : decode code 1937 = .ok (.invokestatic 301, 3) := dec_184 (bv_80 (i := 17) rfl) (bv_80 (i := 18) rfl) (bv_80 (i := 19) rfl) rfl
theorem dW_1940 : decode code 1940 = .ok (.istore 5, 2) := dec_54 (bv_80 (i := 20) rfl) (bv_80 (i := 21) rfl) rfl
theorem dW_1942 : decode code 1942 = .ok (.aload_n 2, 1) := dec_44 (bv_80 (i := 22) rfl)
theorem dW_1943 : decode code 1943 = .ok (.aload_n 0, 1) := dec_42 (bv_80 (i := 23) rfl)
theorem dW_1944 : decode code 1944 = .ok (.iload 4, 2) := dec_21 (bv_81 (i := 0) rfl) (bv_81 (i := 1) rfl) rfl
theorem dW_1946 : decode code 1946 = .ok (.iconst 1, 1) := dec_4 (bv_81 (i := 2) rfl)
theorem dW_1947 : decode code 1947 = .ok (.iadd, 1) := dec_96 (bv_81 (i := 3) rfl)
theorem dW_1948 : decode code 1948 = .ok (.iaload, 1) := dec_46 (bv_81 (i := 4) rfl)
theorem dW_1949 : decode code 1949 = .ok (.aload_n 0, 1) := dec_42 (bv_81 (i := 5) rfl)
theorem dW_1950 : decode code 1950 = .ok (.iload 4, 2) := dec_21 (bv_81 (i := 6) rfl) (bv_81 (i := 7) rfl) rfl
theorem dW_1952 : decode code 1952 = .ok (.iconst 2, 1) := dec_5 (bv_81 (i := 8) rfl)
theorem dW_1953 : decode code 1953 = .ok (.iadd, 1) := dec_96 (bv_81 (i := 9) rfl)
theorem dW_1954 : decode code 1954 = .ok (.iaload, 1) := dec_46 (bv_81 (i := 10) rfl)
theorem dW_1955 : decode code 1955 = .ok (.invokevirtual 303, 3) := dec_182 (bv_81 (i := 11) rfl) (bv_81 (i := 12) rfl) (bv_81 (i := 13) rfl) rfl
theorem dW_1958 : decode code 1958 = .ok (.istore 6, 2) := dec_54 (bv_81 (i := 14) rfl) (bv_81 (i := 15) rfl) rfl
theorem dW_1960 : decode code 1960 = .ok (.goto 396, 3) := dec_167 (bv_81 (i := 16) rfl) (bv_81 (i := 17) rfl) (bv_81 (i := 18) rfl) (by decide +kernel)
theorem dW_1963 : decode code 1963 = .ok (.aload_n 1, 1) := dec_43 (bv_81 (i := 19) rfl)
theorem dW_1964 : decode code 1964 = .ok (.aload_n 0, 1) := dec_42 (bv_81 (i := 20) rfl)
theorem dW_1965 : decode code 1965 = .ok (.iload 4, 2) := dec_21 (bv_81 (i := 21) rfl) (bv_81 (i := 22) rfl) rfl
theorem dW_1967 : decode code 1967 = .ok (.iconst 1, 1) := dec_4 (bv_81 (i := 23) rfl)
theorem dW_1968 : decode code 1968 = .ok (.iadd, 1) := dec_96 (bv_82 (i := 0) rfl)
theorem dW_1969 : decode code 1969 = .ok (.iaload, 1) := dec_46 (bv_82 (i := 1) rfl)
theorem dW_1970 : decode code 1970 = .ok (.aload_n 0, 1) := dec_42 (bv_82 (i := 2) rfl)
theorem dW_1971 : decode code 1971 = .ok (.iload 4, 2) := dec_21 (bv_82 (i := 3) rfl) (bv_82 (i := 4) rfl) rfl
theorem dW_1973 : decode code 1973 = .ok (.iconst 2, 1) := dec_5 (bv_82 (i := 5) rfl)
theorem dW_1974 : decode code 1974 = .ok (.iadd, 1) := dec_96 (bv_82 (i := 6) rfl)
theorem dW_1975 : decode code 1975 = .ok (.iaload, 1) := dec_46 (bv_82 (i := 7) rfl)
theorem dW_1976 : decode code 1976 = .ok (.aload_n 3, 1) := dec_45 (bv_82 (i := 8) rfl)
theorem dW_1977 : decode code 1977 = .ok (.invokestatic 304, 3) := dec_184 (bv_82 (i := 9) rfl) (bv_82 (i := 10) rfl) (bv_82 (i := 11) rfl) rfl
theorem dW_1980 : decode code 1980 = .ok (.istore 5, 2) := dec_54 (bv_82 (i := 12) rfl) (bv_82 (i := 13) rfl) rfl
theorem dW_1982 : decode code 1982 = .ok (.aload_n 2, 1) := dec_44 (bv_82 (i := 14) rfl)
theorem dW_1983 : decode code 1983 = .ok (.aload_n 0, 1) := dec_42 (bv_82 (i := 15) rfl)
theorem dW_1984 : decode code 1984 = .ok (.iload 4, 2) := dec_21 (bv_82 (i := 16) rfl) (bv_82 (i := 17) rfl) rfl
theorem dW_1986 : decode code 1986 = .ok (.iconst 1, 1) := dec_4 (bv_82 (i := 18) rfl)
theorem dW_1987 : decode code 1987 = .ok (.iadd, 1) := dec_96 (bv_82 (i := 19) rfl)
theorem dW_1988 : decode code 1988 = .ok (.iaload, 1) := dec_46 (bv_82 (i := 20) rfl)
theorem dW_1989 : decode code 1989 = .ok (.aload_n 0, 1) := dec_42 (bv_82 (i := 21) rfl)
theorem dW_1990 : decode code 1990 = .ok (.iload 4, 2) := dec_21 (bv_82 (i := 22) rfl) (bv_82 (i := 23) rfl) rfl
theorem dW_1992 : decode code 1992 = .ok (.iconst 2, 1) := dec_5 (bv_83 (i := 0) rfl)
theorem dW_1993 : decode code 1993 = .ok (.iadd, 1) := dec_96 (bv_83 (i := 1) rfl)
theorem dW_1994 : decode code 1994 = .ok (.iaload, 1) := dec_46 (bv_83 (i := 2) rfl)
theorem dW_1995 : decode code 1995 = .ok (.invokevirtual 306, 3) := dec_182 (bv_83 (i := 3) rfl) (bv_83 (i := 4) rfl) (bv_83 (i := 5) rfl) rfl
theorem dW_1998 : decode code 1998 = .ok (.istore 6, 2) := dec_54 (bv_83 (i := 6) rfl) (bv_83 (i := 7) rfl) rfl
theorem dW_2000 : decode code 2000 = .ok (.goto 356, 3) := dec_167 (bv_83 (i := 8) rfl) (bv_83 (i := 9) rfl) (bv_83 (i := 10) rfl) (by decide +kernel)
theorem dW_2003 : decode code 2003 = .ok (.aload_n 1, 1) := dec_43 (bv_83 (i := 11) rfl)
theorem dW_2004 : decode code 2004 = .ok (.aload_n 0, 1) := dec_42 (bv_83 (i := 12) rfl)
theorem dW_2005 : decode code 2005 = .ok (.iload 4, 2) := dec_21 (bv_83 (i := 13) rfl) (bv_83 (i := 14) rfl) rfl
theorem dW_2007 : decode code 2007 = .ok (.iconst 1, 1) := dec_4 (bv_83 (i := 15) rfl)
theorem dW_2008 : decode code 2008 = .ok (.iadd, 1) := dec_96 (bv_83 (i := 16) rfl)
theorem dW_2009 : decode code 2009 = .ok (.iaload, 1) := dec_46 (bv_83 (i := 17) rfl)
theorem dW_2010 : decode code 2010 = .ok (.aload_n 0, 1) := dec_42 (bv_83 (i := 18) rfl)
theorem dW_2011 : decode code 2011 = .ok (.iload 4, 2) := dec_21 (bv_83 (i := 19) rfl) (bv_83 (i := 20) rfl) rfl
theorem dW_2013 : decode code 2013 = .ok (.iconst 2, 1) := dec_5 (bv_83 (i := 21) rfl)
theorem dW_2014 : decode code 2014 = .ok (.iadd, 1) := dec_96 (bv_83 (i := 22) rfl)
theorem dW_2015 : decode code 2015 = .ok (.iaload, 1) := dec_46 (bv_83 (i := 23) rfl)
theorem dW_2016 : decode code 2016 = .ok (.aload_n 3, 1) := dec_45 (bv_84 (i := 0) rfl)
theorem dW_2017 : decode code 2017 = .ok (.invokestatic 307, 3) := dec_184 (bv_84 (i := 1) rfl) (bv_84 (i := 2) rfl) (bv_84 (i := 3) rfl) rfl
theorem dW_2020 : decode code 2020 = .ok (.istore 5, 2) := dec_54 (bv_84 (i := 4) rfl) (bv_84 (i := 5) rfl) rfl
theorem dW_2022 : decode code 2022 = .ok (.aload_n 2, 1) := dec_44 (bv_84 (i := 6) rfl)
theorem dW_2023 : decode code 2023 = .ok (.aload_n 0, 1) := dec_42 (bv_84 (i := 7) rfl)
theorem dW_2024 : decode code 2024 = .ok (.iload 4, 2) := dec_21 (bv_84 (i := 8) rfl) (bv_84 (i := 9) rfl) rfl
theorem dW_2026 : decode code 2026 = .ok (.iconst 1, 1) := dec_4 (bv_84 (i := 10) rfl)
theorem dW_2027 : decode code 2027 = .ok (.iadd, 1) := dec_96 (bv_84 (i := 11) rfl)
theorem dW_2028 : decode code 2028 = .ok (.iaload, 1) := dec_46 (bv_84 (i := 12) rfl)
theorem dW_2029 : decode code 2029 = .ok (.aload_n 0, 1) := dec_42 (bv_84 (i := 13) rfl)
theorem dW_2030 : decode code 2030 = .ok (.iload 4, 2) := dec_21 (bv_84 (i := 14) rfl) (bv_84 (i := 15) rfl) rfl
theorem dW_2032 : decode code 2032 = .ok (.iconst 2, 1) := dec_5 (bv_84 (i := 16) rfl)
theorem dW_2033 : decode code 2033 = .ok (.iadd, 1) := dec_96 (bv_84 (i := 17) rfl)
theorem dW_2034 : decode code 2034 = .ok (.iaload, 1) := dec_46 (bv_84 (i := 18) rfl)
theorem dW_2035 : decode code 2035 = .ok (.invokevirtual 309, 3) := dec_182 (bv_84 (i := 19) rfl) (bv_84 (i := 20) rfl) (bv_84 (i := 21) rfl) rfl
theorem dW_2038 : decode code 2038 = .ok (.istore 6, 2) := dec_54 (bv_84 (i := 22) rfl) (bv_84 (i := 23) rfl) rfl
theorem dW_2040 : decode code 2040 = .ok (.goto 316, 3) := dec_167 (bv_85 (i := 0) rfl) (bv_85 (i := 1) rfl) (bv_85 (i := 2) rfl) (by decide +kernel)
theorem dW_2043 : decode code 2043 = .ok (.aload_n 1, 1) := dec_43 (bv_85 (i := 3) rfl)
theorem dW_2044 : decode code 2044 = .ok (.aload_n 0, 1) := dec_42 (bv_85 (i := 4) rfl)
theorem dW_2045 : decode code 2045 = .ok (.iload 4, 2) := dec_21 (bv_85 (i := 5) rfl) (bv_85 (i := 6) rfl) rfl
theorem dW_2047 : decode code 2047 = .ok (.iconst 1, 1) := dec_4 (bv_85 (i := 7) rfl)
theorem dW_2048 : decode code 2048 = .ok (.iadd, 1) := dec_96 (bv_85 (i := 8) rfl)
theorem dW_2049 : decode code 2049 = .ok (.iaload, 1) := dec_46 (bv_85 (i := 9) rfl)
theorem dW_2050 : decode code 2050 = .ok (.ifCond .eq 7, 3) := dec_153 (bv_85 (i := 10) rfl) (bv_85 (i := 11) rfl) (bv_85 (i := 12) rfl) (by decide +kernel)
theorem dW_2053 : decode code 2053 = .ok (.iconst 1, 1) := dec_4 (bv_85 (i := 13) rfl)
theorem dW_2054 : decode code 2054 = .ok (.goto 4, 3) := dec_167 (bv_85 (i := 14) rfl) (bv_85 (i := 15) rfl) (bv_85 (i := 16) rfl) (by decide +kernel)
theorem dW_2057 : decode code 2057 = .ok (.iconst 0, 1) := dec_3 (bv_85 (i := 17) rfl)
theorem dW_2058 : decode code 2058 = .ok (.invokevirtual 310, 3) := dec_182 (bv_85 (i := 18) rfl) (bv_85 (i := 19) rfl) (bv_85 (i := 20) rfl) rfl
theorem dW_2061 : decode code 2061 = .ok (.pop, 1) := dec_87 (bv_85 (i := 21) rfl)
theorem dW_2062 : decode code 2062 = .ok (.aload_n 2, 1) := dec_44 (bv_85 (i := 22) rfl)
theorem dW_2063 : decode code 2063 = .ok (.aload_n 0, 1) := dec_42 (bv_85 (i := 23) rfl)
theorem dW_2064 : decode code 2064 = .ok (.iload 4, 2) := dec_21 (bv_86 (i := 0) rfl) (bv_86 (i := 1) rfl) rfl
theorem dW_2066 : decode code 2066 = .ok (.iconst 1, 1) := dec_4 (bv_86 (i := 2) rfl)
theorem dW_2067 : decode code 2067 = .ok (.iadd, 1) := dec_96 (bv_86 (i := 3) rfl)
theorem dW_2068 : decode code 2068 = .ok (.iaload, 1) := dec_46 (bv_86 (i := 4) rfl)
theorem dW_2069 : decode code 2069 = .ok (.ifCond .eq 7, 3) := dec_153 (bv_86 (i := 5) rfl) (bv_86 (i := 6) rfl) (bv_86 (i := 7) rfl) (by decide +kernel)
theorem dW_2072 : decode code 2072 = .ok (.iconst 1, 1) := dec_4 (bv_86 (i := 8) rfl)
theorem dW_2073 : decode code 2073 = .ok (.goto 4, 3) := dec_167 (bv_86 (i := 9) rfl) (bv_86 (i := 10) rfl) (bv_86 (i := 11) rfl) (by decide +kernel)
theorem dW_2076 : decode code 2076 = .ok (.iconst 0, 1) := dec_3 (bv_86 (i := 12) rfl)
theorem dW_2077 : decode code 2077 = .ok (.invokevirtual 314, 3) := dec_182 (bv_86 (i := 13) rfl) (bv_86 (i := 14) rfl) (bv_86 (i := 15) rfl) rfl
theorem dW_2080 : decode code 2080 = .ok (.pop, 1) := dec_87 (bv_86 (i := 16) rfl)
theorem dW_2081 : decode code 2081 = .ok (.goto 275, 3) := dec_167 (bv_86 (i := 17) rfl) (bv_86 (i := 18) rfl) (bv_86 (i := 19) rfl) (by decide +kernel)
theorem dW_2084 : decode code 2084 = .ok (.aload_n 1, 1) := dec_43 (bv_86 (i := 20) rfl)
theorem dW_2085 : decode code 2085 = .ok (.aload_n 0, 1) := dec_42 (bv_86 (i := 21) rfl)
theorem dW_2086 : decode code 2086 = .ok (.iload 4, 2) := dec_21 (bv_86 (i := 22) rfl) (bv_86 (i := 23) rfl) rfl
theorem dW_2088 : decode code 2088 = .ok (.iconst 1, 1) := dec_4 (bv_87 (i := 0) rfl)
theorem dW_2089 : decode code 2089 = .ok (.iadd, 1) := dec_96 (bv_87 (i := 1) rfl)
theorem dW_2090 : decode code 2090 = .ok (.iaload, 1) := dec_46 (bv_87 (i := 2) rfl)
theorem dW_2091 : decode code 2091 = .ok (.aload_n 0, 1) := dec_42 (bv_87 (i := 3) rfl)
theorem dW_2092 : decode code 2092 = .ok (.iload 4, 2) := dec_21 (bv_87 (i := 4) rfl) (bv_87 (i := 5) rfl) rfl
theorem dW_2094 : decode code 2094 = .ok (.iconst 2, 1) := dec_5 (bv_87 (i := 6) rfl)
theorem dW_2095 : decode code 2095 = .ok (.iadd, 1) := dec_96 (bv_87 (i := 7) rfl)
theorem dW_2096 : decode code 2096 = .ok (.iaload, 1) := dec_46 (bv_87 (i := 8) rfl)
theorem dW_2097 : decode code 2097 = .ok (.ifCond .eq 7, 3) := dec_153 (bv_87 (i := 9) rfl) (bv_87 (i := 10) rfl) (bv_87 (i := 11) rfl) (by decide +kernel)
theorem dW_2100 : decode code 2100 = .ok (.iconst 1, 1) := dec_4 (bv_87 (i := 12) rfl)
theorem dW_2101 : decode code 2101 = .ok (.goto 4, 3) := dec_167 (bv_87 (i := 13) rfl) (bv_87 (i := 14) rfl) (bv_87 (i := 15) rfl) (by decide +kernel)
theorem dW_2104 : decode code 2104 = .ok (.iconst 0, 1) := dec_3 (bv_87 (i := 16) rfl)
theorem dW_2105 : decode code 2105 = .ok (.aload_n 3, 1) := dec_45 (bv_87 (i := 17) rfl)
theorem dW_2106 : decode code 2106 = .ok (.invokestatic 315, 3) := dec_184 (bv_87 (i := 18) rfl) (bv_87 (i := 19) rfl) (bv_87 (i := 20) rfl) rfl
theorem dW_2109 : decode code 2109 = .ok (.istore 5, 2) := dec_54 (bv_87 (i := 21) rfl) (bv_87 (i := 22) rfl) rfl
theorem dW_2111 : decode code 2111 = .ok (.aload_n 2, 1) := dec_44 (bv_87 (i := 23) rfl)
theorem dW_2112 : decode code 2112 = .ok (.aload_n 0, 1) := dec_42 (bv_88 (i := 0) rfl)
theorem dW_2113 : decode code 2113 = .ok (.iload 4, 2) := dec_21 (bv_88 (i := 1) rfl) (bv_88 (i := 2) rfl) rfl
theorem dW_2115 : decode code 2115 = .ok (.iconst 1, 1) := dec_4 (bv_88 (i := 3) rfl)
theorem dW_2116 : decode code 2116 = .ok (.iadd, 1) := dec_96 (bv_88 (i := 4) rfl)
theorem dW_2117 : decode code 2117 = .ok (.iaload, 1) := dec_46 (bv_88 (i := 5) rfl)
theorem dW_2118 : decode code 2118 = .ok (.aload_n 0, 1) := dec_42 (bv_88 (i := 6) rfl)
theorem dW_2119 : decode code 2119 = .ok (.iload 4, 2) := dec_21 (bv_88 (i := 7) rfl) (bv_88 (i := 8) rfl) rfl
theorem dW_2121 : decode code 2121 = .ok (.iconst 2, 1) := dec_5 (bv_88 (i := 9) rfl)
theorem dW_2122 : decode code 2122 = .ok (.iadd, 1) := dec_96 (bv_88 (i := 10) rfl)
theorem dW_2123 : decode code 2123 = .ok (.iaload, 1) := dec_46 (bv_88 (i := 11) rfl)
theorem dW_2124 : decode code 2124 = .ok (.ifCond .eq 7, 3) := dec_153 (bv_88 (i := 12) rfl) (bv_88 (i := 13) rfl) (bv_88 (i := 14) rfl) (by decide +kernel)
theorem dW_2127 : decode code 2127 = .ok (.iconst 1, 1) := dec_4 (bv_88 (i := 15) rfl)
theorem dW_2128 : decode code 2128 = .ok (.goto 4, 3) := dec_167 (bv_88 (i := 16) rfl) (bv_88 (i := 17) rfl) (bv_88 (i := 18) rfl) (by decide +kernel)
theorem dW_2131 : decode code 2131 = .ok (.iconst 0, 1) := dec_3 (bv_88 (i := 19) rfl)
theorem dW_2132 : decode code 2132 = .ok (.invokevirtual 317, 3) := dec_182 (bv_88 (i := 20) rfl) (bv_88 (i := 21) rfl) (bv_88 (i := 22) rfl) rfl
theorem dW_2135 : decode code 2135 = .ok (.astore 6, 2) := dec_58 (bv_88 (i := 23) rfl) (bv_89 (i := 0) rfl) rfl
theorem dW_2137 : decode code 2137 = .ok (.goto 219, 3) := dec_167 (bv_89 (i := 1) rfl) (bv_89 (i := 2) rfl) (bv_89 (i := 3) rfl) (by decide +kernel)
theorem dW_2140 : decode code 2140 = .ok (.aload_n 1, 1) := dec_43 (bv_89 (i := 4) rfl)
theorem dW_2141 : decode code 2141 = .ok (.aload_n 0, 1) := dec_42 (bv_89 (i := 5) rfl)
theorem dW_2142 : decode code 2142 = .ok (.iload 4, 2) := dec_21 (bv_89 (i := 6) rfl) (bv_89 (i := 7) rfl) rfl
theorem dW_2144 : decode code 2144 = .ok (.iconst 1, 1) := dec_4 (bv_89 (i := 8) rfl)
theorem dW_2145 : decode code 2145 = .ok (.iadd, 1) := dec_96 (bv_89 (i := 9) rfl)
theorem dW_2146 : decode code 2146 = .ok (.iaload, 1) := dec_46 (bv_89 (i := 10) rfl)
theorem dW_2147 : decode code 2147 = .ok (.aload_n 3, 1) := dec_45 (bv_89 (i := 11) rfl)
theorem dW_2148 : decode code 2148 = .ok (.invokestatic 318, 3) := dec_184 (bv_89 (i := 12) rfl) (bv_89 (i := 13) rfl) (bv_89 (i := 14) rfl) rfl
theorem dW_2151 : decode code 2151 = .ok (.istore 5, 2) := dec_54 (bv_89 (i := 15) rfl) (bv_89 (i := 16) rfl) rfl
theorem dW_2153 : decode code 2153 = .ok (.aload_n 2, 1) := dec_44 (bv_89 (i := 17) rfl)
theorem dW_2154 : decode code 2154 = .ok (.aload_n 0, 1) := dec_42 (bv_89 (i := 18) rfl)
theorem dW_2155 : decode code 2155 = .ok (.iload 4, 2) := dec_21 (bv_89 (i := 19) rfl) (bv_89 (i := 20) rfl) rfl
theorem dW_2157 : decode code 2157 = .ok (.iconst 1, 1) := dec_4 (bv_89 (i := 21) rfl)
theorem dW_2158 : decode code 2158 = .ok (.iadd, 1) := dec_96 (bv_89 (i := 22) rfl)
theorem dW_2159 : decode code 2159 = .ok (.iaload, 1) := dec_46 (bv_89 (i := 23) rfl)
theorem dW_2160 : decode code 2160 = .ok (.invokevirtual 320, 3) := dec_182 (bv_90 (i := 0) rfl) (bv_90 (i := 1) rfl) (bv_90 (i := 2) rfl) rfl
theorem dW_2163 : decode code 2163 = .ok (.istore 6, 2) := dec_54 (bv_90 (i := 3) rfl) (bv_90 (i := 4) rfl) rfl
theorem dW_2165 : decode code 2165 = .ok (.goto 191, 3) := dec_167 (bv_90 (i := 5) rfl) (bv_90 (i := 6) rfl) (bv_90 (i := 7) rfl) (by decide +kernel)
theorem dW_2168 : decode code 2168 = .ok (.aload_n 1, 1) := dec_43 (bv_90 (i := 8) rfl)
theorem dW_2169 : decode code 2169 = .ok (.aload_n 0, 1) := dec_42 (bv_90 (i := 9) rfl)
theorem dW_2170 : decode code 2170 = .ok (.iload 4, 2) := dec_21 (bv_90 (i := 10) rfl) (bv_90 (i := 11) rfl) rfl
theorem dW_2172 : decode code 2172 = .ok (.iconst 1, 1) := dec_4 (bv_90 (i := 12) rfl)
theorem dW_2173 : decode code 2173 = .ok (.iadd, 1) := dec_96 (bv_90 (i := 13) rfl)
theorem dW_2174 : decode code 2174 = .ok (.iaload, 1) := dec_46 (bv_90 (i := 14) rfl)
theorem dW_2175 : decode code 2175 = .ok (.aload_n 0, 1) := dec_42 (bv_90 (i := 15) rfl)
theorem dW_2176 : decode code 2176 = .ok (.iload 4, 2) := dec_21 (bv_90 (i := 16) rfl) (bv_90 (i := 17) rfl) rfl
theorem dW_2178 : decode code 2178 = .ok (.iconst 2, 1) := dec_5 (bv_90 (i := 18) rfl)
theorem dW_2179 : decode code 2179 = .ok (.iadd, 1) := dec_96 (bv_90 (i := 19) rfl)
theorem dW_2180 : decode code 2180 = .ok (.iaload, 1) := dec_46 (bv_90 (i := 20) rfl)
theorem dW_2181 : decode code 2181 = .ok (.aload_n 0, 1) := dec_42 (bv_90 (i := 21) rfl)
theorem dW_2182 : decode code 2182 = .ok (.iload 4, 2) := dec_21 (bv_90 (i := 22) rfl) (bv_90 (i := 23) rfl) rfl
theorem dW_2184 : decode code 2184 = .ok (.iconst 3, 1) := dec_6 (bv_91 (i := 0) rfl)
theorem dW_2185 : decode code 2185 = .ok (.iadd, 1) := dec_96 (bv_91 (i := 1) rfl)
theorem dW_2186 : decode code 2186 = .ok (.iaload, 1) := dec_46 (bv_91 (i := 2) rfl)
theorem dW_2187 : decode code 2187 = .ok (.aload_n 3, 1) := dec_45 (bv_91 (i := 3) rfl)
theorem dW_2188 : decode code 2188 = .ok (.invokestatic 321, 3) := dec_184 (bv_91 (i := 4) rfl) (bv_91 (i := 5) rfl) (bv_91 (i := 6) rfl) rfl
theorem dW_2191 : decode code 2191 = .ok (.istore 5, 2) := dec_54 (bv_91 (i := 7) rfl) (bv_91 (i := 8) rfl) rfl
theorem dW_2193 : decode code 2193 = .ok (.aload_n 2, 1) := dec_44 (bv_91 (i := 9) rfl)
theorem dW_2194 : decode code 2194 = .ok (.aload_n 0, 1) := dec_42 (bv_91 (i := 10) rfl)
theorem dW_2195 : decode code 2195 = .ok (.iload 4, 2) := dec_21 (bv_91 (i := 11) rfl) (bv_91 (i := 12) rfl) rfl
theorem dW_2197 : decode code 2197 = .ok (.iconst 1, 1) := dec_4 (bv_91 (i := 13) rfl)
theorem dW_2198 : decode code 2198 = .ok (.iadd, 1) := dec_96 (bv_91 (i := 14) rfl)
theorem dW_2199 : decode code 2199 = .ok (.iaload, 1) := dec_46 (bv_91 (i := 15) rfl)
theorem dW_2200 : decode code 2200 = .ok (.aload_n 0, 1) := dec_42 (bv_91 (i := 16) rfl)
theorem dW_2201 : decode code 2201 = .ok (.iload 4, 2) := dec_21 (bv_91 (i := 17) rfl) (bv_91 (i := 18) rfl) rfl
theorem dW_2203 : decode code 2203 = .ok (.iconst 2, 1) := dec_5 (bv_91 (i := 19) rfl)
theorem dW_2204 : decode code 2204 = .ok (.iadd, 1) := dec_96 (bv_91 (i := 20) rfl)
theorem dW_2205 : decode code 2205 = .ok (.iaload, 1) := dec_46 (bv_91 (i := 21) rfl)
theorem dW_2206 : decode code 2206 = .ok (.aload_n 0, 1) := dec_42 (bv_91 (i := 22) rfl)
theorem dW_2207 : decode code 2207 = .ok (.iload 4, 2) := dec_21 (bv_91 (i := 23) rfl) (bv_92 (i := 0) rfl) rfl
theorem dW_2209 : decode code 2209 = .ok (.iconst 3, 1) := dec_6 (bv_92 (i := 1) rfl)
theorem dW_2210 : decode code 2210 = .ok (.iadd, 1) := dec_96 (bv_92 (i := 2) rfl)
theorem dW_2211 : decode code 2211 = .ok (.iaload, 1) := dec_46 (bv_92 (i := 3) rfl)
theorem dW_2212 : decode code 2212 = .ok (.invokevirtual 323, 3) := dec_182 (bv_92 (i := 4) rfl) (bv_92 (i := 5) rfl) (bv_92 (i := 6) rfl) rfl
theorem dW_2215 : decode code 2215 = .ok (.istore 6, 2) := dec_54 (bv_92 (i := 7) rfl) (bv_92 (i := 8) rfl) rfl
theorem dW_2217 : decode code 2217 = .ok (.goto 139, 3) := dec_167 (bv_92 (i := 9) rfl) (bv_92 (i := 10) rfl) (bv_92 (i := 11) rfl) (by decide +kernel)
theorem dW_2220 : decode code 2220 = .ok (.aload_n 1, 1) := dec_43 (bv_92 (i := 12) rfl)
theorem dW_2221 : decode code 2221 = .ok (.aload_n 0, 1) := dec_42 (bv_92 (i := 13) rfl)
theorem dW_2222 : decode code 2222 = .ok (.iload 4, 2) := dec_21 (bv_92 (i := 14) rfl) (bv_92 (i := 15) rfl) rfl
theorem dW_2224 : decode code 2224 = .ok (.iconst 1, 1) := dec_4 (bv_92 (i := 16) rfl)
theorem dW_2225 : decode code 2225 = .ok (.iadd, 1) := dec_96 (bv_92 (i := 17) rfl)
theorem dW_2226 : decode code 2226 = .ok (.iaload, 1) := dec_46 (bv_92 (i := 18) rfl)
theorem dW_2227 : decode code 2227 = .ok (.aload_n 0, 1) := dec_42 (bv_92 (i := 19) rfl)
theorem dW_2228 : decode code 2228 = .ok (.iload 4, 2) := dec_21 (bv_92 (i := 20) rfl) (bv_92 (i := 21) rfl) rfl
theorem dW_2230 : decode code 2230 = .ok (.iconst 2, 1) := dec_5 (bv_92 (i := 22) rfl)
theorem dW_2231 : decode code 2231 = .ok (.iadd, 1) := dec_96 (bv_92 (i := 23) rfl)
theorem dW_2232 : decode code 2232 = .ok (.iaload, 1) := dec_46 (bv_93 (i := 0) rfl)
theorem dW_2233 : decode code 2233 = .ok (.aload_n 3, 1) := dec_45 (bv_93 (i := 1) rfl)
theorem dW_2234 : decode code 2234 = .ok (.invokestatic 324, 3) := dec_184 (bv_93 (i := 2) rfl) (bv_93 (i := 3) rfl) (bv_93 (i := 4) rfl) rfl
theorem dW_2237 : decode code 2237 = .ok (.istore 5, 2) := dec_54 (bv_93 (i := 5) rfl) (bv_93 (i := 6) rfl) rfl
theorem dW_2239 : decode code 2239 = .ok (.aload_n 2, 1) := dec_44 (bv_93 (i := 7) rfl)
theorem dW_2240 : decode code 2240 = .ok (.aload_n 0, 1) := dec_42 (bv_93 (i := 8) rfl)
theorem dW_2241 : decode code 2241 = .ok (.iload 4, 2) := dec_21 (bv_93 (i := 9) rfl) (bv_93 (i := 10) rfl) rfl
theorem dW_2243 : decode code 2243 = .ok (.iconst 1, 1) := dec_4 (bv_93 (i := 11) rfl)
theorem dW_2244 : decode code 2244 = .ok (.iadd, 1) := dec_96 (bv_93 (i := 12) rfl)
theorem dW_2245 : decode code 2245 = .ok (.iaload, 1) := dec_46 (bv_93 (i := 13) rfl)
theorem dW_2246 : decode code 2246 = .ok (.aload_n 0, 1) := dec_42 (bv_93 (i := 14) rfl)
theorem dW_2247 : decode code 2247 = .ok (.iload 4, 2) := dec_21 (bv_93 (i := 15) rfl) (bv_93 (i := 16) rfl) rfl
theorem dW_2249 : decode code 2249 = .ok (.iconst 2, 1) := dec_5 (bv_93 (i := 17) rfl)
theorem dW_2250 : decode code 2250 = .ok (.iadd, 1) := dec_96 (bv_93 (i := 18) rfl)
theorem dW_2251 : decode code 2251 = .ok (.iaload, 1) := dec_46 (bv_93 (i := 19) rfl)
theorem dW_2252 : decode code 2252 = .ok (.invokevirtual 326, 3) := dec_182 (bv_93 (i := 20) rfl) (bv_93 (i := 21) rfl) (bv_93 (i := 22) rfl) rfl
theorem dW_2255 : decode code 2255 = .ok (.istore 6, 2) := dec_54 (bv_93 (i := 23) rfl) (bv_94 (i := 0) rfl) rfl
theorem dW_2257 : decode code 2257 = .ok (.goto 99, 3) := dec_167 (bv_94 (i := 1) rfl) (bv_94 (i := 2) rfl) (bv_94 (i := 3) rfl) (by decide +kernel)
theorem dW_2260 : decode code 2260 = .ok (.aload_n 1, 1) := dec_43 (bv_94 (i := 4) rfl)
theorem dW_2261 : decode code 2261 = .ok (.aload_n 0, 1) := dec_42 (bv_94 (i := 5) rfl)
theorem dW_2262 : decode code 2262 = .ok (.iload 4, 2) := dec_21 (bv_94 (i := 6) rfl) (bv_94 (i := 7) rfl) rfl
theorem dW_2264 : decode code 2264 = .ok (.iconst 1, 1) := dec_4 (bv_94 (i := 8) rfl)
theorem dW_2265 : decode code 2265 = .ok (.iadd, 1) := dec_96 (bv_94 (i := 9) rfl)
theorem dW_2266 : decode code 2266 = .ok (.iaload, 1) := dec_46 (bv_94 (i := 10) rfl)
theorem dW_2267 : decode code 2267 = .ok (.aload_n 3, 1) := dec_45 (bv_94 (i := 11) rfl)
theorem dW_2268 : decode code 2268 = .ok (.invokestatic 327, 3) := dec_184 (bv_94 (i := 12) rfl) (bv_94 (i := 13) rfl) (bv_94 (i := 14) rfl) rfl
theorem dW_2271 : decode code 2271 = .ok (.istore 5, 2) := dec_54 (bv_94 (i := 15) rfl) (bv_94 (i := 16) rfl) rfl
theorem dW_2273 : decode code 2273 = .ok (.aload_n 2, 1) := dec_44 (bv_94 (i := 17) rfl)
theorem dW_2274 : decode code 2274 = .ok (.aload_n 0, 1) := dec_42 (bv_94 (i := 18) rfl)
theorem dW_2275 : decode code 2275 = .ok (.iload 4, 2) := dec_21 (bv_94 (i := 19) rfl) (bv_94 (i := 20) rfl) rfl
theorem dW_2277 : decode code 2277 = .ok (.iconst 1, 1) := dec_4 (bv_94 (i := 21) rfl)
theorem dW_2278 : decode code 2278 = .ok (.iadd, 1) := dec_96 (bv_94 (i := 22) rfl)
theorem dW_2279 : decode code 2279 = .ok (.iaload, 1) := dec_46 (bv_94 (i := 23) rfl)
theorem dW_2280 : decode code 2280 = .ok (.invokevirtual 329, 3) := dec_182 (bv_95 (i := 0) rfl) (bv_95 (i := 1) rfl) (bv_95 (i := 2) rfl) rfl
theorem dW_2283 : decode code 2283 = .ok (.istore 6, 2) := dec_54 (bv_95 (i := 3) rfl) (bv_95 (i := 4) rfl) rfl
theorem dW_2285 : decode code 2285 = .ok (.aload_n 2, 1) := dec_44 (bv_95 (i := 5) rfl)
theorem dW_2286 : decode code 2286 = .ok (.invokevirtual 330, 3) := dec_182 (bv_95 (i := 6) rfl) (bv_95 (i := 7) rfl) (bv_95 (i := 8) rfl) rfl
theorem dW_2289 : decode code 2289 = .ok (.iload 5, 2) := dec_21 (bv_95 (i := 9) rfl) (bv_95 (i := 10) rfl) rfl
theorem dW_2291 : decode code 2291 = .ok (.if_icmp .eq 5, 3) := dec_159 (bv_95 (i := 11) rfl) (bv_95 (i := 12) rfl) (bv_95 (i := 13) rfl) (by decide +kernel)
theorem dW_2294 : decode code 2294 = .ok (.iconst 0, 1) := dec_3 (bv_95 (i := 14) rfl)
theorem dW_2295 : decode code 2295 = .ok (.ireturn, 1) := dec_172 (bv_95 (i := 15) rfl)
theorem dW_2296 : decode code 2296 = .ok (.iload 5, 2) := dec_21 (bv_95 (i := 16) rfl) (bv_95 (i := 17) rfl) rfl
theorem dW_2298 : decode code 2298 = .ok (.ifCond .ne 16, 3) := dec_154 (bv_95 (i := 18) rfl) (bv_95 (i := 19) rfl) (bv_95 (i := 20) rfl) (by decide +kernel)
theorem dW_2301 : decode code 2301 = .ok (.aload_n 3, 1) := dec_45 (bv_95 (i := 21) rfl)
theorem dW_2302 : decode code 2302 = .ok (.getfield 13, 3) := dec_180 (bv_95 (i := 22) rfl) (bv_95 (i := 23) rfl) (bv_96 (i := 0) rfl) rfl
theorem dW_2305 : decode code 2305 = .ok (.iload 6, 2) := dec_21 (bv_96 (i := 1) rfl) (bv_96 (i := 2) rfl) rfl
theorem dW_2307 : decode code 2307 = .ok (.i2l, 1) := dec_133 (bv_96 (i := 3) rfl)
theorem dW_2308 : decode code 2308 = .ok (.lcmp, 1) := dec_148 (bv_96 (i := 4) rfl)
theorem dW_2309 : decode code 2309 = .ok (.ifCond .eq 5, 3) := dec_153 (bv_96 (i := 5) rfl) (bv_96 (i := 6) rfl) (bv_96 (i := 7) rfl) (by decide +kernel)
theorem dW_2312 : decode code 2312 = .ok (.iconst 0, 1) := dec_3 (bv_96 (i := 8) rfl)
theorem dW_2313 : decode code 2313 = .ok (.ireturn, 1) := dec_172 (bv_96 (i := 9) rfl)
theorem dW_2314 : decode code 2314 = .ok (.goto 42, 3) := dec_167 (bv_96 (i := 10) rfl) (bv_96 (i := 11) rfl) (bv_96 (i := 12) rfl) (by decide +kernel)
theorem dW_2317 : decode code 2317 = .ok (.aload_n 1, 1) := dec_43 (bv_96 (i := 13) rfl)
theorem dW_2318 : decode code 2318 = .ok (.invokevirtual 333, 3) := dec_182 (bv_96 (i := 14) rfl) (bv_96 (i := 15) rfl) (bv_96 (i := 16) rfl) rfl
theorem dW_2321 : decode code 2321 = .ok (.pop, 1) := dec_87 (bv_96 (i := 17) rfl)
theorem dW_2322 : decode code 2322 = .ok (.aload_n 2, 1) := dec_44 (bv_96 (i := 18) rfl)
theorem dW_2323 : decode code 2323 = .ok (.invokevirtual 336, 3) := dec_182 (bv_96 (i := 19) rfl) (bv_96 (i := 20) rfl) (bv_96 (i := 21) rfl) rfl
theorem dW_2326 : decode code 2326 = .ok (.pop, 1) := dec_87 (bv_96 (i := 22) rfl)
theorem dW_2327 : decode code 2327 = .ok (.goto 29, 3) := dec_167 (bv_96 (i := 23) rfl) (bv_97 (i := 0) rfl) (bv_97 (i := 1) rfl) (by decide +kernel)
theorem dW_2330 : decode code 2330 = .ok (.aload_n 1, 1) := dec_43 (bv_97 (i := 2) rfl)
theorem dW_2331 : decode code 2331 = .ok (.invokevirtual 337, 3) := dec_182 (bv_97 (i := 3) rfl) (bv_97 (i := 4) rfl) (bv_97 (i := 5) rfl) rfl
theorem dW_2334 : decode code 2334 = .ok (.pop, 1) := dec_87 (bv_97 (i := 6) rfl)
theorem dW_2335 : decode code 2335 = .ok (.aload_n 2, 1) := dec_44 (bv_97 (i := 7) rfl)
theorem dW_2336 : decode code 2336 = .ok (.invokevirtual 341, 3) := dec_182 (bv_97 (i := 8) rfl) (bv_97 (i := 9) rfl) (bv_97 (i := 10) rfl) rfl
theorem dW_2339 : decode code 2339 = .ok (.pop, 1) := dec_87 (bv_97 (i := 11) rfl)
theorem dW_2340 : decode code 2340 = .ok (.goto 16, 3) := dec_167 (bv_97 (i := 12) rfl) (bv_97 (i := 13) rfl) (bv_97 (i := 14) rfl) (by decide +kernel)
theorem dW_2343 : decode code 2343 = .ok (.aload_n 1, 1) := dec_43 (bv_97 (i := 15) rfl)
theorem dW_2344 : decode code 2344 = .ok (.invokevirtual 342, 3) := dec_182 (bv_97 (i := 16) rfl) (bv_97 (i := 17) rfl) (bv_97 (i := 18) rfl) rfl
theorem dW_2347 : decode code 2347 = .ok (.pop2, 1) := dec_88 (bv_97 (i := 19) rfl)
theorem dW_2348 : decode code 2348 = .ok (.aload_n 2, 1) := dec_44 (bv_97 (i := 20) rfl)
theorem dW_2349 : decode code 2349 = .ok (.invokevirtual 346, 3) := dec_182 (bv_97 (i := 21) rfl) (bv_97 (i := 22) rfl) (bv_97 (i := 23) rfl) rfl
theorem dW_2352 : decode code 2352 = .ok (.pop2, 1) := dec_88 (bv_98 (i := 0) rfl)
theorem dW_2353 : decode code 2353 = .ok (.goto 3, 3) := dec_167 (bv_98 (i := 1) rfl) (bv_98 (i := 2) rfl) (bv_98 (i := 3) rfl) (by decide +kernel)
theorem dW_2356 : decode code 2356 = .ok (.iinc 4 5, 3) := by decide +kernel
theorem dW_2359 : decode code 2359 = .ok (.goto (-2332), 3) := dec_167 (bv_98 (i := 7) rfl) (bv_98 (i := 8) rfl) (bv_98 (i := 9) rfl) (by decide +kernel)
theorem dW_2362 : decode code 2362 = .ok (.iconst 1, 1) := dec_4 (bv_98 (i := 10) rfl)
theorem dW_2363 : decode code 2363 = .ok (.ireturn, 1) := dec_172 (bv_98 (i := 11) rfl)
