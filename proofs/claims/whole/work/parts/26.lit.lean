/-! literals -/
theorem q_l0 : (0 : Int32) = q_I 0 := rfl
theorem q_s0 : q_sg 0 = 0 := by decide
theorem q_l1 : (1 : Int32) = q_I 1 := rfl
theorem q_s1 : q_sg 1 = 1 := by decide
theorem q_n1 : q_sg (-1) = -1 := by decide
theorem q_l2 : (2 : Int32) = q_I 2 := rfl
theorem q_s2 : q_sg 2 = 2 := by decide
theorem q_n2 : q_sg (-2) = -2 := by decide
theorem q_l3 : (3 : Int32) = q_I 3 := rfl
theorem q_s3 : q_sg 3 = 3 := by decide
theorem q_n3 : q_sg (-3) = -3 := by decide
theorem q_l4 : (4 : Int32) = q_I 4 := rfl
theorem q_s4 : q_sg 4 = 4 := by decide
theorem q_n4 : q_sg (-4) = -4 := by decide
theorem q_l5 : (5 : Int32) = q_I 5 := rfl
theorem q_s5 : q_sg 5 = 5 := by decide
theorem q_n5 : q_sg (-5) = -5 := by decide
theorem q_l6 : (6 : Int32) = q_I 6 := rfl
theorem q_s6 : q_sg 6 = 6 := by decide
theorem q_n6 : q_sg (-6) = -6 := by decide
theorem q_l7 : (7 : Int32) = q_I 7 := rfl
theorem q_s7 : q_sg 7 = 7 := by decide
theorem q_n7 : q_sg (-7) = -7 := by decide
theorem q_l8 : (8 : Int32) = q_I 8 := rfl
theorem q_s8 : q_sg 8 = 8 := by decide
theorem q_n8 : q_sg (-8) = -8 := by decide
theorem q_l9 : (9 : Int32) = q_I 9 := rfl
theorem q_s9 : q_sg 9 = 9 := by decide
theorem q_n9 : q_sg (-9) = -9 := by decide
theorem q_l10 : (10 : Int32) = q_I 10 := rfl
theorem q_s10 : q_sg 10 = 10 := by decide
theorem q_n10 : q_sg (-10) = -10 := by decide
theorem q_l11 : (11 : Int32) = q_I 11 := rfl
theorem q_s11 : q_sg 11 = 11 := by decide
theorem q_n11 : q_sg (-11) = -11 := by decide
theorem q_l12 : (12 : Int32) = q_I 12 := rfl
theorem q_s12 : q_sg 12 = 12 := by decide
theorem q_n12 : q_sg (-12) = -12 := by decide
theorem q_l14 : (14 : Int32) = q_I 14 := rfl
theorem q_s14 : q_sg 14 = 14 := by decide
theorem q_n14 : q_sg (-14) = -14 := by decide
theorem q_l16 : (16 : Int32) = q_I 16 := rfl
theorem q_s16 : q_sg 16 = 16 := by decide
theorem q_n16 : q_sg (-16) = -16 := by decide
theorem q_l17 : (17 : Int32) = q_I 17 := rfl
theorem q_s17 : q_sg 17 = 17 := by decide
theorem q_n17 : q_sg (-17) = -17 := by decide
theorem q_l18 : (18 : Int32) = q_I 18 := rfl
theorem q_s18 : q_sg 18 = 18 := by decide
theorem q_n18 : q_sg (-18) = -18 := by decide
theorem q_l20 : (20 : Int32) = q_I 20 := rfl
theorem q_s20 : q_sg 20 = 20 := by decide
theorem q_n20 : q_sg (-20) = -20 := by decide
theorem q_l24 : (24 : Int32) = q_I 24 := rfl
theorem q_s24 : q_sg 24 = 24 := by decide
theorem q_n24 : q_sg (-24) = -24 := by decide
theorem q_l31 : (31 : Int32) = q_I 31 := rfl
theorem q_s31 : q_sg 31 = 31 := by decide
theorem q_n31 : q_sg (-31) = -31 := by decide
theorem q_l32 : (32 : Int32) = q_I 32 := rfl
theorem q_s32 : q_sg 32 = 32 := by decide
theorem q_n32 : q_sg (-32) = -32 := by decide
theorem q_l40 : (40 : Int32) = q_I 40 := rfl
theorem q_s40 : q_sg 40 = 40 := by decide
theorem q_n40 : q_sg (-40) = -40 := by decide
theorem q_l41 : (41 : Int32) = q_I 41 := rfl
theorem q_s41 : q_sg 41 = 41 := by decide
theorem q_n41 : q_sg (-41) = -41 := by decide
theorem q_l42 : (42 : Int32) = q_I 42 := rfl
theorem q_s42 : q_sg 42 = 42 := by decide
theorem q_n42 : q_sg (-42) = -42 := by decide
theorem q_l43 : (43 : Int32) = q_I 43 := rfl
theorem q_s43 : q_sg 43 = 43 := by decide
theorem q_n43 : q_sg (-43) = -43 := by decide
theorem q_l44 : (44 : Int32) = q_I 44 := rfl
theorem q_s44 : q_sg 44 = 44 := by decide
theorem q_n44 : q_sg (-44) = -44 := by decide
theorem q_l47 : (47 : Int32) = q_I 47 := rfl
theorem q_s47 : q_sg 47 = 47 := by decide
theorem q_n47 : q_sg (-47) = -47 := by decide
theorem q_l48 : (48 : Int32) = q_I 48 := rfl
theorem q_s48 : q_sg 48 = 48 := by decide
theorem q_n48 : q_sg (-48) = -48 := by decide
theorem q_l57 : (57 : Int32) = q_I 57 := rfl
theorem q_s57 : q_sg 57 = 57 := by decide
theorem q_n57 : q_sg (-57) = -57 := by decide
theorem q_l59 : (59 : Int32) = q_I 59 := rfl
theorem q_s59 : q_sg 59 = 59 := by decide
theorem q_n59 : q_sg (-59) = -59 := by decide
theorem q_l60 : (60 : Int32) = q_I 60 := rfl
theorem q_s60 : q_sg 60 = 60 := by decide
theorem q_n60 : q_sg (-60) = -60 := by decide
theorem q_l62 : (62 : Int32) = q_I 62 := rfl
theorem q_s62 : q_sg 62 = 62 := by decide
theorem q_n62 : q_sg (-62) = -62 := by decide
theorem q_l63 : (63 : Int32) = q_I 63 := rfl
theorem q_s63 : q_sg 63 = 63 := by decide
theorem q_n63 : q_sg (-63) = -63 := by decide
theorem q_l97 : (97 : Int32) = q_I 97 := rfl
theorem q_s97 : q_sg 97 = 97 := by decide
theorem q_n97 : q_sg (-97) = -97 := by decide
theorem q_l99 : (99 : Int32) = q_I 99 := rfl
theorem q_s99 : q_sg 99 = 99 := by decide
theorem q_n99 : q_sg (-99) = -99 := by decide
theorem q_l100 : (100 : Int32) = q_I 100 := rfl
theorem q_s100 : q_sg 100 = 100 := by decide
theorem q_n100 : q_sg (-100) = -100 := by decide
theorem q_l122 : (122 : Int32) = q_I 122 := rfl
theorem q_s122 : q_sg 122 = 122 := by decide
theorem q_n122 : q_sg (-122) = -122 := by decide
theorem q_l176 : (176 : Int32) = q_I 176 := rfl
theorem q_s176 : q_sg 176 = 176 := by decide
theorem q_n176 : q_sg (-176) = -176 := by decide
theorem q_l239 : (239 : Int32) = q_I 239 := rfl
theorem q_s239 : q_sg 239 = 239 := by decide
theorem q_n239 : q_sg (-239) = -239 := by decide
theorem q_l240 : (240 : Int32) = q_I 240 := rfl
theorem q_s240 : q_sg 240 = 240 := by decide
theorem q_n240 : q_sg (-240) = -240 := by decide
theorem q_l255 : (255 : Int32) = q_I 255 := rfl
theorem q_s255 : q_sg 255 = 255 := by decide
theorem q_n255 : q_sg (-255) = -255 := by decide
theorem q_l281 : (281 : Int32) = q_I 281 := rfl
theorem q_s281 : q_sg 281 = 281 := by decide
theorem q_n281 : q_sg (-281) = -281 := by decide
theorem q_l288 : (288 : Int32) = q_I 288 := rfl
theorem q_s288 : q_sg 288 = 288 := by decide
theorem q_n288 : q_sg (-288) = -288 := by decide
theorem q_l400 : (400 : Int32) = q_I 400 := rfl
theorem q_s400 : q_sg 400 = 400 := by decide
theorem q_n400 : q_sg (-400) = -400 := by decide
theorem q_l999 : (999 : Int32) = q_I 999 := rfl
theorem q_s999 : q_sg 999 = 999 := by decide
theorem q_n999 : q_sg (-999) = -999 := by decide
theorem q_l1000 : (1000 : Int32) = q_I 1000 := rfl
theorem q_s1000 : q_sg 1000 = 1000 := by decide
theorem q_n1000 : q_sg (-1000) = -1000 := by decide
theorem q_l1049 : (1049 : Int32) = q_I 1049 := rfl
theorem q_s1049 : q_sg 1049 = 1049 := by decide
theorem q_n1049 : q_sg (-1049) = -1049 := by decide
theorem q_l1449 : (1449 : Int32) = q_I 1449 := rfl
theorem q_s1449 : q_sg 1449 = 1449 := by decide
theorem q_n1449 : q_sg (-1449) = -1449 := by decide
theorem q_l2000 : (2000 : Int32) = q_I 2000 := rfl
theorem q_s2000 : q_sg 2000 = 2000 := by decide
theorem q_n2000 : q_sg (-2000) = -2000 := by decide
theorem q_l3000 : (3000 : Int32) = q_I 3000 := rfl
theorem q_s3000 : q_sg 3000 = 3000 := by decide
theorem q_n3000 : q_sg (-3000) = -3000 := by decide
theorem q_l4000 : (4000 : Int32) = q_I 4000 := rfl
theorem q_s4000 : q_sg 4000 = 4000 := by decide
theorem q_n4000 : q_sg (-4000) = -4000 := by decide
theorem q_l4001 : (4001 : Int32) = q_I 4001 := rfl
theorem q_s4001 : q_sg 4001 = 4001 := by decide
theorem q_n4001 : q_sg (-4001) = -4001 := by decide
theorem q_l4002 : (4002 : Int32) = q_I 4002 := rfl
theorem q_s4002 : q_sg 4002 = 4002 := by decide
theorem q_n4002 : q_sg (-4002) = -4002 := by decide
theorem q_l4003 : (4003 : Int32) = q_I 4003 := rfl
theorem q_s4003 : q_sg 4003 = 4003 := by decide
theorem q_n4003 : q_sg (-4003) = -4003 := by decide
theorem q_l4004 : (4004 : Int32) = q_I 4004 := rfl
theorem q_s4004 : q_sg 4004 = 4004 := by decide
theorem q_n4004 : q_sg (-4004) = -4004 := by decide
theorem q_l9999 : (9999 : Int32) = q_I 9999 := rfl
theorem q_s9999 : q_sg 9999 = 9999 := by decide
theorem q_n9999 : q_sg (-9999) = -9999 := by decide
theorem q_l10000 : (10000 : Int32) = q_I 10000 := rfl
theorem q_s10000 : q_sg 10000 = 10000 := by decide
theorem q_n10000 : q_sg (-10000) = -10000 := by decide
theorem q_l11539 : (11539 : Int32) = q_I 11539 := rfl
theorem q_s11539 : q_sg 11539 = 11539 := by decide
theorem q_n11539 : q_sg (-11539) = -11539 := by decide
theorem q_l12345 : (12345 : Int32) = q_I 12345 := rfl
theorem q_s12345 : q_sg 12345 = 12345 := by decide
theorem q_n12345 : q_sg (-12345) = -12345 := by decide
theorem q_l32767 : (32767 : Int32) = q_I 32767 := rfl
theorem q_s32767 : q_sg 32767 = 32767 := by decide
theorem q_n32767 : q_sg (-32767) = -32767 := by decide
theorem q_l99999 : (99999 : Int32) = q_I 99999 := rfl
theorem q_s99999 : q_sg 99999 = 99999 := by decide
theorem q_n99999 : q_sg (-99999) = -99999 := by decide
theorem q_l252645135 : (252645135 : Int32) = q_I 252645135 := rfl
theorem q_s252645135 : q_sg 252645135 = 252645135 := by decide
theorem q_n252645135 : q_sg (-252645135) = -252645135 := by decide
theorem q_l858993459 : (858993459 : Int32) = q_I 858993459 := rfl
theorem q_s858993459 : q_sg 858993459 = 858993459 := by decide
theorem q_n858993459 : q_sg (-858993459) = -858993459 := by decide
theorem q_l1103515245 : (1103515245 : Int32) = q_I 1103515245 := rfl
theorem q_s1103515245 : q_sg 1103515245 = 1103515245 := by decide
theorem q_n1103515245 : q_sg (-1103515245) = -1103515245 := by decide
theorem q_l1431655765 : (1431655765 : Int32) = q_I 1431655765 := rfl
theorem q_s1431655765 : q_sg 1431655765 = 1431655765 := by decide
theorem q_n1431655765 : q_sg (-1431655765) = -1431655765 := by decide
theorem q_l2000000000 : (2000000000 : Int32) = q_I 2000000000 := rfl
theorem q_s2000000000 : q_sg 2000000000 = 2000000000 := by decide
theorem q_n2000000000 : q_sg (-2000000000) = -2000000000 := by decide
theorem ly_a3 : ly_A 3 400 .int := ⟨rfl, by decide, by decide, by decide, by decide⟩
theorem ly_a4 : ly_A 4 401 .int := ⟨rfl, by decide, by decide, by decide, by decide⟩
theorem ly_a5 : ly_A 5 401 .int := ⟨rfl, by decide, by decide, by decide, by decide⟩
theorem ly_a6 : ly_A 6 401 .int := ⟨rfl, by decide, by decide, by decide, by decide⟩
theorem ly_a9 : ly_A 9 48 .int := ⟨rfl, by decide, by decide, by decide, by decide⟩
theorem ly_a10 : ly_A 10 48 .int := ⟨rfl, by decide, by decide, by decide, by decide⟩
theorem ly_a11 : ly_A 11 48 .int := ⟨rfl, by decide, by decide, by decide, by decide⟩
theorem ly_a12 : ly_A 12 48 .int := ⟨rfl, by decide, by decide, by decide, by decide⟩
theorem ly_a13 : ly_A 13 288 .int := ⟨rfl, by decide, by decide, by decide, by decide⟩
theorem ly_a14 : ly_A 14 288 .int := ⟨rfl, by decide, by decide, by decide, by decide⟩
theorem ly_a15 : ly_A 15 8 .int := ⟨rfl, by decide, by decide, by decide, by decide⟩
theorem ly_a16 : ly_A 16 4 .int := ⟨rfl, by decide, by decide, by decide, by decide⟩
theorem ly_a17 : ly_A 17 4 .int := ⟨rfl, by decide, by decide, by decide, by decide⟩
theorem ly_a18 : ly_A 18 12 .int := ⟨rfl, by decide, by decide, by decide, by decide⟩
theorem ly_a19 : ly_A 19 12 .int := ⟨rfl, by decide, by decide, by decide, by decide⟩
theorem ly_a20 : ly_A 20 240 .int := ⟨rfl, by decide, by decide, by decide, by decide⟩
theorem ly_a23 : ly_A 23 48 .int := ⟨rfl, by decide, by decide, by decide, by decide⟩
theorem ly_a24 : ly_A 24 48 .int := ⟨rfl, by decide, by decide, by decide, by decide⟩
theorem ly_a25 : ly_A 25 48 .int := ⟨rfl, by decide, by decide, by decide, by decide⟩
theorem ly_a26 : ly_A 26 48 .int := ⟨rfl, by decide, by decide, by decide, by decide⟩
theorem ly_a27 : ly_A 27 288 .int := ⟨rfl, by decide, by decide, by decide, by decide⟩
theorem ly_a28 : ly_A 28 288 .int := ⟨rfl, by decide, by decide, by decide, by decide⟩
theorem ly_a29 : ly_A 29 8 .int := ⟨rfl, by decide, by decide, by decide, by decide⟩
theorem ly_a30 : ly_A 30 4 .int := ⟨rfl, by decide, by decide, by decide, by decide⟩
theorem ly_a31 : ly_A 31 4 .int := ⟨rfl, by decide, by decide, by decide, by decide⟩
theorem ly_a32 : ly_A 32 12 .int := ⟨rfl, by decide, by decide, by decide, by decide⟩
theorem ly_a33 : ly_A 33 12 .int := ⟨rfl, by decide, by decide, by decide, by decide⟩
theorem ly_a34 : ly_A 34 240 .int := ⟨rfl, by decide, by decide, by decide, by decide⟩
theorem ly_a37 : ly_A 37 48 .int := ⟨rfl, by decide, by decide, by decide, by decide⟩
theorem ly_a38 : ly_A 38 48 .int := ⟨rfl, by decide, by decide, by decide, by decide⟩
theorem ly_a39 : ly_A 39 48 .int := ⟨rfl, by decide, by decide, by decide, by decide⟩
theorem ly_a40 : ly_A 40 48 .int := ⟨rfl, by decide, by decide, by decide, by decide⟩
theorem ly_a41 : ly_A 41 288 .int := ⟨rfl, by decide, by decide, by decide, by decide⟩
theorem ly_a42 : ly_A 42 288 .int := ⟨rfl, by decide, by decide, by decide, by decide⟩
theorem ly_a43 : ly_A 43 8 .int := ⟨rfl, by decide, by decide, by decide, by decide⟩
theorem ly_a44 : ly_A 44 4 .int := ⟨rfl, by decide, by decide, by decide, by decide⟩
theorem ly_a45 : ly_A 45 4 .int := ⟨rfl, by decide, by decide, by decide, by decide⟩
theorem ly_a46 : ly_A 46 12 .int := ⟨rfl, by decide, by decide, by decide, by decide⟩
theorem ly_a47 : ly_A 47 12 .int := ⟨rfl, by decide, by decide, by decide, by decide⟩
theorem ly_a48 : ly_A 48 240 .int := ⟨rfl, by decide, by decide, by decide, by decide⟩
theorem ly_a50 : ly_A 50 12 .int := ⟨rfl, by decide, by decide, by decide, by decide⟩
theorem ly_a51 : ly_A 51 12 .int := ⟨rfl, by decide, by decide, by decide, by decide⟩
theorem ly_a52 : ly_A 52 12 .int := ⟨rfl, by decide, by decide, by decide, by decide⟩
theorem ly_a53 : ly_A 53 400 .int := ⟨rfl, by decide, by decide, by decide, by decide⟩
theorem ly_a54 : ly_A 54 32 .int := ⟨rfl, by decide, by decide, by decide, by decide⟩
theorem ly_a56 : ly_A 56 12 .int := ⟨rfl, by decide, by decide, by decide, by decide⟩
theorem ly_a57 : ly_A 57 12 .int := ⟨rfl, by decide, by decide, by decide, by decide⟩
theorem ly_a58 : ly_A 58 12 .int := ⟨rfl, by decide, by decide, by decide, by decide⟩
theorem ly_a59 : ly_A 59 400 .int := ⟨rfl, by decide, by decide, by decide, by decide⟩
theorem ly_a60 : ly_A 60 32 .int := ⟨rfl, by decide, by decide, by decide, by decide⟩
theorem ly_a62 : ly_A 62 12 .int := ⟨rfl, by decide, by decide, by decide, by decide⟩
theorem ly_a63 : ly_A 63 12 .int := ⟨rfl, by decide, by decide, by decide, by decide⟩
theorem ly_a64 : ly_A 64 12 .int := ⟨rfl, by decide, by decide, by decide, by decide⟩
theorem ly_a65 : ly_A 65 400 .int := ⟨rfl, by decide, by decide, by decide, by decide⟩
theorem ly_a66 : ly_A 66 32 .int := ⟨rfl, by decide, by decide, by decide, by decide⟩
theorem ly_a69 : ly_A 69 12 .int := ⟨rfl, by decide, by decide, by decide, by decide⟩
theorem ly_a70 : ly_A 70 12 .int := ⟨rfl, by decide, by decide, by decide, by decide⟩
theorem ly_a75 : ly_A 75 48 .int := ⟨rfl, by decide, by decide, by decide, by decide⟩
theorem ly_a76 : ly_A 76 48 .int := ⟨rfl, by decide, by decide, by decide, by decide⟩
theorem ly_a77 : ly_A 77 48 .int := ⟨rfl, by decide, by decide, by decide, by decide⟩
theorem ly_a78 : ly_A 78 48 .int := ⟨rfl, by decide, by decide, by decide, by decide⟩
theorem ly_a79 : ly_A 79 288 .int := ⟨rfl, by decide, by decide, by decide, by decide⟩
theorem ly_a80 : ly_A 80 288 .int := ⟨rfl, by decide, by decide, by decide, by decide⟩
theorem ly_a81 : ly_A 81 8 .int := ⟨rfl, by decide, by decide, by decide, by decide⟩
theorem ly_a82 : ly_A 82 4 .int := ⟨rfl, by decide, by decide, by decide, by decide⟩
theorem ly_a83 : ly_A 83 4 .int := ⟨rfl, by decide, by decide, by decide, by decide⟩
theorem ly_a84 : ly_A 84 12 .int := ⟨rfl, by decide, by decide, by decide, by decide⟩
theorem ly_a85 : ly_A 85 12 .int := ⟨rfl, by decide, by decide, by decide, by decide⟩
theorem ly_a86 : ly_A 86 240 .int := ⟨rfl, by decide, by decide, by decide, by decide⟩
theorem ly_a89 : ly_A 89 48 .int := ⟨rfl, by decide, by decide, by decide, by decide⟩
theorem ly_a90 : ly_A 90 48 .int := ⟨rfl, by decide, by decide, by decide, by decide⟩
theorem ly_a91 : ly_A 91 48 .int := ⟨rfl, by decide, by decide, by decide, by decide⟩
theorem ly_a92 : ly_A 92 48 .int := ⟨rfl, by decide, by decide, by decide, by decide⟩
theorem ly_a93 : ly_A 93 288 .int := ⟨rfl, by decide, by decide, by decide, by decide⟩
theorem ly_a94 : ly_A 94 288 .int := ⟨rfl, by decide, by decide, by decide, by decide⟩
theorem ly_a95 : ly_A 95 8 .int := ⟨rfl, by decide, by decide, by decide, by decide⟩
theorem ly_a96 : ly_A 96 4 .int := ⟨rfl, by decide, by decide, by decide, by decide⟩
theorem ly_a97 : ly_A 97 4 .int := ⟨rfl, by decide, by decide, by decide, by decide⟩
theorem ly_a98 : ly_A 98 12 .int := ⟨rfl, by decide, by decide, by decide, by decide⟩
theorem ly_a99 : ly_A 99 12 .int := ⟨rfl, by decide, by decide, by decide, by decide⟩
theorem ly_a100 : ly_A 100 240 .int := ⟨rfl, by decide, by decide, by decide, by decide⟩
theorem ly_a103 : ly_A 103 48 .int := ⟨rfl, by decide, by decide, by decide, by decide⟩
theorem ly_a104 : ly_A 104 48 .int := ⟨rfl, by decide, by decide, by decide, by decide⟩
theorem ly_a105 : ly_A 105 48 .int := ⟨rfl, by decide, by decide, by decide, by decide⟩
theorem ly_a106 : ly_A 106 48 .int := ⟨rfl, by decide, by decide, by decide, by decide⟩
theorem ly_a107 : ly_A 107 288 .int := ⟨rfl, by decide, by decide, by decide, by decide⟩
theorem ly_a108 : ly_A 108 288 .int := ⟨rfl, by decide, by decide, by decide, by decide⟩
theorem ly_a109 : ly_A 109 8 .int := ⟨rfl, by decide, by decide, by decide, by decide⟩
theorem ly_a110 : ly_A 110 4 .int := ⟨rfl, by decide, by decide, by decide, by decide⟩
theorem ly_a111 : ly_A 111 4 .int := ⟨rfl, by decide, by decide, by decide, by decide⟩
theorem ly_a112 : ly_A 112 12 .int := ⟨rfl, by decide, by decide, by decide, by decide⟩
theorem ly_a113 : ly_A 113 12 .int := ⟨rfl, by decide, by decide, by decide, by decide⟩
theorem ly_a114 : ly_A 114 240 .int := ⟨rfl, by decide, by decide, by decide, by decide⟩
theorem ly_a117 : ly_A 117 48 .int := ⟨rfl, by decide, by decide, by decide, by decide⟩
theorem ly_a118 : ly_A 118 48 .int := ⟨rfl, by decide, by decide, by decide, by decide⟩
theorem ly_a119 : ly_A 119 48 .int := ⟨rfl, by decide, by decide, by decide, by decide⟩
theorem ly_a120 : ly_A 120 48 .int := ⟨rfl, by decide, by decide, by decide, by decide⟩
theorem ly_a121 : ly_A 121 288 .int := ⟨rfl, by decide, by decide, by decide, by decide⟩
theorem ly_a122 : ly_A 122 288 .int := ⟨rfl, by decide, by decide, by decide, by decide⟩
theorem ly_a123 : ly_A 123 8 .int := ⟨rfl, by decide, by decide, by decide, by decide⟩
theorem ly_a124 : ly_A 124 4 .int := ⟨rfl, by decide, by decide, by decide, by decide⟩
theorem ly_a125 : ly_A 125 4 .int := ⟨rfl, by decide, by decide, by decide, by decide⟩
theorem ly_a126 : ly_A 126 12 .int := ⟨rfl, by decide, by decide, by decide, by decide⟩
theorem ly_a127 : ly_A 127 12 .int := ⟨rfl, by decide, by decide, by decide, by decide⟩
theorem ly_a128 : ly_A 128 240 .int := ⟨rfl, by decide, by decide, by decide, by decide⟩
theorem ly_a131 : ly_A 131 48 .int := ⟨rfl, by decide, by decide, by decide, by decide⟩
theorem ly_a132 : ly_A 132 48 .int := ⟨rfl, by decide, by decide, by decide, by decide⟩
theorem ly_a133 : ly_A 133 48 .int := ⟨rfl, by decide, by decide, by decide, by decide⟩
theorem ly_a134 : ly_A 134 48 .int := ⟨rfl, by decide, by decide, by decide, by decide⟩
theorem ly_a135 : ly_A 135 288 .int := ⟨rfl, by decide, by decide, by decide, by decide⟩
theorem ly_a136 : ly_A 136 288 .int := ⟨rfl, by decide, by decide, by decide, by decide⟩
theorem ly_a137 : ly_A 137 8 .int := ⟨rfl, by decide, by decide, by decide, by decide⟩
theorem ly_a138 : ly_A 138 4 .int := ⟨rfl, by decide, by decide, by decide, by decide⟩
theorem ly_a139 : ly_A 139 4 .int := ⟨rfl, by decide, by decide, by decide, by decide⟩
theorem ly_a140 : ly_A 140 12 .int := ⟨rfl, by decide, by decide, by decide, by decide⟩
theorem ly_a141 : ly_A 141 12 .int := ⟨rfl, by decide, by decide, by decide, by decide⟩
theorem ly_a142 : ly_A 142 240 .int := ⟨rfl, by decide, by decide, by decide, by decide⟩
theorem ly_a145 : ly_A 145 48 .int := ⟨rfl, by decide, by decide, by decide, by decide⟩
theorem ly_a146 : ly_A 146 48 .int := ⟨rfl, by decide, by decide, by decide, by decide⟩
theorem ly_a147 : ly_A 147 48 .int := ⟨rfl, by decide, by decide, by decide, by decide⟩
theorem ly_a148 : ly_A 148 48 .int := ⟨rfl, by decide, by decide, by decide, by decide⟩
theorem ly_a149 : ly_A 149 288 .int := ⟨rfl, by decide, by decide, by decide, by decide⟩
theorem ly_a150 : ly_A 150 288 .int := ⟨rfl, by decide, by decide, by decide, by decide⟩
theorem ly_a151 : ly_A 151 8 .int := ⟨rfl, by decide, by decide, by decide, by decide⟩
theorem ly_a152 : ly_A 152 4 .int := ⟨rfl, by decide, by decide, by decide, by decide⟩
theorem ly_a153 : ly_A 153 4 .int := ⟨rfl, by decide, by decide, by decide, by decide⟩
theorem ly_a154 : ly_A 154 12 .int := ⟨rfl, by decide, by decide, by decide, by decide⟩
theorem ly_a155 : ly_A 155 12 .int := ⟨rfl, by decide, by decide, by decide, by decide⟩
theorem ly_a156 : ly_A 156 240 .int := ⟨rfl, by decide, by decide, by decide, by decide⟩
theorem ly_a159 : ly_A 159 48 .int := ⟨rfl, by decide, by decide, by decide, by decide⟩
theorem ly_a160 : ly_A 160 48 .int := ⟨rfl, by decide, by decide, by decide, by decide⟩
theorem ly_a161 : ly_A 161 48 .int := ⟨rfl, by decide, by decide, by decide, by decide⟩
theorem ly_a162 : ly_A 162 48 .int := ⟨rfl, by decide, by decide, by decide, by decide⟩
theorem ly_a163 : ly_A 163 288 .int := ⟨rfl, by decide, by decide, by decide, by decide⟩
theorem ly_a164 : ly_A 164 288 .int := ⟨rfl, by decide, by decide, by decide, by decide⟩
theorem ly_a165 : ly_A 165 8 .int := ⟨rfl, by decide, by decide, by decide, by decide⟩
theorem ly_a166 : ly_A 166 4 .int := ⟨rfl, by decide, by decide, by decide, by decide⟩
theorem ly_a167 : ly_A 167 4 .int := ⟨rfl, by decide, by decide, by decide, by decide⟩
theorem ly_a168 : ly_A 168 12 .int := ⟨rfl, by decide, by decide, by decide, by decide⟩
theorem ly_a169 : ly_A 169 12 .int := ⟨rfl, by decide, by decide, by decide, by decide⟩
theorem ly_a170 : ly_A 170 240 .int := ⟨rfl, by decide, by decide, by decide, by decide⟩
theorem ly_a173 : ly_A 173 48 .int := ⟨rfl, by decide, by decide, by decide, by decide⟩
theorem ly_a174 : ly_A 174 48 .int := ⟨rfl, by decide, by decide, by decide, by decide⟩
theorem ly_a175 : ly_A 175 48 .int := ⟨rfl, by decide, by decide, by decide, by decide⟩
theorem ly_a176 : ly_A 176 48 .int := ⟨rfl, by decide, by decide, by decide, by decide⟩
theorem ly_a177 : ly_A 177 288 .int := ⟨rfl, by decide, by decide, by decide, by decide⟩
theorem ly_a178 : ly_A 178 288 .int := ⟨rfl, by decide, by decide, by decide, by decide⟩
theorem ly_a179 : ly_A 179 8 .int := ⟨rfl, by decide, by decide, by decide, by decide⟩
theorem ly_a180 : ly_A 180 4 .int := ⟨rfl, by decide, by decide, by decide, by decide⟩
theorem ly_a181 : ly_A 181 4 .int := ⟨rfl, by decide, by decide, by decide, by decide⟩
theorem ly_a182 : ly_A 182 12 .int := ⟨rfl, by decide, by decide, by decide, by decide⟩
theorem ly_a183 : ly_A 183 12 .int := ⟨rfl, by decide, by decide, by decide, by decide⟩
theorem ly_a184 : ly_A 184 240 .int := ⟨rfl, by decide, by decide, by decide, by decide⟩
theorem ly_a187 : ly_A 187 48 .int := ⟨rfl, by decide, by decide, by decide, by decide⟩
theorem ly_a188 : ly_A 188 48 .int := ⟨rfl, by decide, by decide, by decide, by decide⟩
theorem ly_a189 : ly_A 189 48 .int := ⟨rfl, by decide, by decide, by decide, by decide⟩
theorem ly_a190 : ly_A 190 48 .int := ⟨rfl, by decide, by decide, by decide, by decide⟩
theorem ly_a191 : ly_A 191 288 .int := ⟨rfl, by decide, by decide, by decide, by decide⟩
theorem ly_a192 : ly_A 192 288 .int := ⟨rfl, by decide, by decide, by decide, by decide⟩
theorem ly_a193 : ly_A 193 8 .int := ⟨rfl, by decide, by decide, by decide, by decide⟩
theorem ly_a194 : ly_A 194 4 .int := ⟨rfl, by decide, by decide, by decide, by decide⟩
theorem ly_a195 : ly_A 195 4 .int := ⟨rfl, by decide, by decide, by decide, by decide⟩
theorem ly_a196 : ly_A 196 12 .int := ⟨rfl, by decide, by decide, by decide, by decide⟩
theorem ly_a197 : ly_A 197 12 .int := ⟨rfl, by decide, by decide, by decide, by decide⟩
theorem ly_a198 : ly_A 198 240 .int := ⟨rfl, by decide, by decide, by decide, by decide⟩
theorem ly_a201 : ly_A 201 48 .int := ⟨rfl, by decide, by decide, by decide, by decide⟩
theorem ly_a202 : ly_A 202 48 .int := ⟨rfl, by decide, by decide, by decide, by decide⟩
theorem ly_a203 : ly_A 203 48 .int := ⟨rfl, by decide, by decide, by decide, by decide⟩
theorem ly_a204 : ly_A 204 48 .int := ⟨rfl, by decide, by decide, by decide, by decide⟩
theorem ly_a205 : ly_A 205 288 .int := ⟨rfl, by decide, by decide, by decide, by decide⟩
theorem ly_a206 : ly_A 206 288 .int := ⟨rfl, by decide, by decide, by decide, by decide⟩
theorem ly_a207 : ly_A 207 8 .int := ⟨rfl, by decide, by decide, by decide, by decide⟩
theorem ly_a208 : ly_A 208 4 .int := ⟨rfl, by decide, by decide, by decide, by decide⟩
theorem ly_a209 : ly_A 209 4 .int := ⟨rfl, by decide, by decide, by decide, by decide⟩
theorem ly_a210 : ly_A 210 12 .int := ⟨rfl, by decide, by decide, by decide, by decide⟩
theorem ly_a211 : ly_A 211 12 .int := ⟨rfl, by decide, by decide, by decide, by decide⟩
theorem ly_a212 : ly_A 212 240 .int := ⟨rfl, by decide, by decide, by decide, by decide⟩
theorem ly_a215 : ly_A 215 48 .int := ⟨rfl, by decide, by decide, by decide, by decide⟩
theorem ly_a216 : ly_A 216 48 .int := ⟨rfl, by decide, by decide, by decide, by decide⟩
theorem ly_a217 : ly_A 217 48 .int := ⟨rfl, by decide, by decide, by decide, by decide⟩
theorem ly_a218 : ly_A 218 48 .int := ⟨rfl, by decide, by decide, by decide, by decide⟩
theorem ly_a219 : ly_A 219 288 .int := ⟨rfl, by decide, by decide, by decide, by decide⟩
theorem ly_a220 : ly_A 220 288 .int := ⟨rfl, by decide, by decide, by decide, by decide⟩
theorem ly_a221 : ly_A 221 8 .int := ⟨rfl, by decide, by decide, by decide, by decide⟩
theorem ly_a222 : ly_A 222 4 .int := ⟨rfl, by decide, by decide, by decide, by decide⟩
theorem ly_a223 : ly_A 223 4 .int := ⟨rfl, by decide, by decide, by decide, by decide⟩
theorem ly_a224 : ly_A 224 12 .int := ⟨rfl, by decide, by decide, by decide, by decide⟩
theorem ly_a225 : ly_A 225 12 .int := ⟨rfl, by decide, by decide, by decide, by decide⟩
theorem ly_a226 : ly_A 226 240 .int := ⟨rfl, by decide, by decide, by decide, by decide⟩
theorem ly_a229 : ly_A 229 48 .int := ⟨rfl, by decide, by decide, by decide, by decide⟩
theorem ly_a230 : ly_A 230 48 .int := ⟨rfl, by decide, by decide, by decide, by decide⟩
theorem ly_a231 : ly_A 231 48 .int := ⟨rfl, by decide, by decide, by decide, by decide⟩
theorem ly_a232 : ly_A 232 48 .int := ⟨rfl, by decide, by decide, by decide, by decide⟩
theorem ly_a233 : ly_A 233 288 .int := ⟨rfl, by decide, by decide, by decide, by decide⟩
theorem ly_a234 : ly_A 234 288 .int := ⟨rfl, by decide, by decide, by decide, by decide⟩
theorem ly_a235 : ly_A 235 8 .int := ⟨rfl, by decide, by decide, by decide, by decide⟩
theorem ly_a236 : ly_A 236 4 .int := ⟨rfl, by decide, by decide, by decide, by decide⟩
theorem ly_a237 : ly_A 237 4 .int := ⟨rfl, by decide, by decide, by decide, by decide⟩
theorem ly_a238 : ly_A 238 12 .int := ⟨rfl, by decide, by decide, by decide, by decide⟩
theorem ly_a239 : ly_A 239 12 .int := ⟨rfl, by decide, by decide, by decide, by decide⟩
theorem ly_a240 : ly_A 240 240 .int := ⟨rfl, by decide, by decide, by decide, by decide⟩
theorem ly_a243 : ly_A 243 176 .int := ⟨rfl, by decide, by decide, by decide, by decide⟩
theorem ly_a244 : ly_A 244 176 .int := ⟨rfl, by decide, by decide, by decide, by decide⟩
theorem ly_a245 : ly_A 245 1056 .int := ⟨rfl, by decide, by decide, by decide, by decide⟩
theorem ly_a246 : ly_A 246 1056 .int := ⟨rfl, by decide, by decide, by decide, by decide⟩
theorem ly_a247 : ly_A 247 176 .int := ⟨rfl, by decide, by decide, by decide, by decide⟩
theorem ly_a248 : ly_A 248 48 .int := ⟨rfl, by decide, by decide, by decide, by decide⟩
theorem ly_a249 : ly_A 249 40 .int := ⟨rfl, by decide, by decide, by decide, by decide⟩
theorem ly_a250 : ly_A 250 40 .int := ⟨rfl, by decide, by decide, by decide, by decide⟩
theorem ly_a252 : ly_A 252 48 .int := ⟨rfl, by decide, by decide, by decide, by decide⟩
theorem ly_a253 : ly_A 253 48 .int := ⟨rfl, by decide, by decide, by decide, by decide⟩
theorem ly_a254 : ly_A 254 48 .int := ⟨rfl, by decide, by decide, by decide, by decide⟩
theorem ly_a255 : ly_A 255 176 .int := ⟨rfl, by decide, by decide, by decide, by decide⟩
theorem ly_a256 : ly_A 256 48 .int := ⟨rfl, by decide, by decide, by decide, by decide⟩
theorem ly_a257 : ly_A 257 48 .int := ⟨rfl, by decide, by decide, by decide, by decide⟩
theorem ly_a258 : ly_A 258 48 .int := ⟨rfl, by decide, by decide, by decide, by decide⟩
theorem ly_a259 : ly_A 259 49 .int := ⟨rfl, by decide, by decide, by decide, by decide⟩
theorem ly_a260 : ly_A 260 7 .int := ⟨rfl, by decide, by decide, by decide, by decide⟩
theorem ly_a262 : ly_A 262 48 .int := ⟨rfl, by decide, by decide, by decide, by decide⟩
theorem ly_a263 : ly_A 263 48 .int := ⟨rfl, by decide, by decide, by decide, by decide⟩
theorem ly_a265 : ly_A 265 1 .int := ⟨rfl, by decide, by decide, by decide, by decide⟩
theorem ly_a266 : ly_A 266 1 .int := ⟨rfl, by decide, by decide, by decide, by decide⟩
theorem ly_a267 : ly_A 267 4 .int := ⟨rfl, by decide, by decide, by decide, by decide⟩
theorem ly_a268 : ly_A 268 4 .int := ⟨rfl, by decide, by decide, by decide, by decide⟩
theorem ly_a269 : ly_A 269 4 .int := ⟨rfl, by decide, by decide, by decide, by decide⟩
theorem ly_a271 : ly_A 271 100 .int := ⟨rfl, by decide, by decide, by decide, by decide⟩
theorem ly_a272 : ly_A 272 48 .int := ⟨rfl, by decide, by decide, by decide, by decide⟩
theorem ly_a274 : ly_A 274 100 .int := ⟨rfl, by decide, by decide, by decide, by decide⟩
theorem ly_a275 : ly_A 275 48 .int := ⟨rfl, by decide, by decide, by decide, by decide⟩
theorem ly_a277 : ly_A 277 100 .int := ⟨rfl, by decide, by decide, by decide, by decide⟩
theorem ly_a278 : ly_A 278 48 .int := ⟨rfl, by decide, by decide, by decide, by decide⟩
theorem ly_a280 : ly_A 280 100 .int := ⟨rfl, by decide, by decide, by decide, by decide⟩
theorem ly_a281 : ly_A 281 48 .int := ⟨rfl, by decide, by decide, by decide, by decide⟩
theorem ly_a283 : ly_A 283 100 .int := ⟨rfl, by decide, by decide, by decide, by decide⟩
theorem ly_a284 : ly_A 284 48 .int := ⟨rfl, by decide, by decide, by decide, by decide⟩
theorem ly_a286 : ly_A 286 1449 .int := ⟨rfl, by decide, by decide, by decide, by decide⟩
theorem ly_a287 : ly_A 287 1449 .int := ⟨rfl, by decide, by decide, by decide, by decide⟩
theorem ly_a288 : ly_A 288 1049 .int := ⟨rfl, by decide, by decide, by decide, by decide⟩
theorem ly_a289 : ly_A 289 12588 .int := ⟨rfl, by decide, by decide, by decide, by decide⟩
theorem ly_a290 : ly_A 290 400 .int := ⟨rfl, by decide, by decide, by decide, by decide⟩
theorem ly_a291 : ly_A 291 7 .int := ⟨rfl, by decide, by decide, by decide, by decide⟩
theorem ly_a292 : ly_A 292 12 .int := ⟨rfl, by decide, by decide, by decide, by decide⟩
theorem ly_a293 : ly_A 293 12 .int := ⟨rfl, by decide, by decide, by decide, by decide⟩
theorem ly_a294 : ly_A 294 240 .int := ⟨rfl, by decide, by decide, by decide, by decide⟩
theorem ly_a295 : ly_A 295 240 .int := ⟨rfl, by decide, by decide, by decide, by decide⟩
theorem ly_a296 : ly_A 296 1440 .int := ⟨rfl, by decide, by decide, by decide, by decide⟩
theorem ly_a297 : ly_A 297 1440 .int := ⟨rfl, by decide, by decide, by decide, by decide⟩
theorem ly_a298 : ly_A 298 240 .int := ⟨rfl, by decide, by decide, by decide, by decide⟩
theorem ly_a299 : ly_A 299 16 .int := ⟨rfl, by decide, by decide, by decide, by decide⟩
theorem ly_a300 : ly_A 300 16 .int := ⟨rfl, by decide, by decide, by decide, by decide⟩
theorem ly_a301 : ly_A 301 48 .boolean := ⟨rfl, by decide, by decide, by decide, by decide⟩
theorem ly_a302 : ly_A 302 48 .boolean := ⟨rfl, by decide, by decide, by decide, by decide⟩
theorem ly_a303 : ly_A 303 48 .int := ⟨rfl, by decide, by decide, by decide, by decide⟩
theorem ly_a304 : ly_A 304 48 .int := ⟨rfl, by decide, by decide, by decide, by decide⟩
theorem ly_a305 : ly_A 305 768 .int := ⟨rfl, by decide, by decide, by decide, by decide⟩
theorem ly_a306 : ly_A 306 49 .int := ⟨rfl, by decide, by decide, by decide, by decide⟩
theorem ly_a307 : ly_A 307 48 .int := ⟨rfl, by decide, by decide, by decide, by decide⟩
theorem ly_a308 : ly_A 308 500 .int := ⟨rfl, by decide, by decide, by decide, by decide⟩
theorem ly_a309 : ly_A 309 5 .int := ⟨rfl, by decide, by decide, by decide, by decide⟩
theorem ly_a310 : ly_A 310 16 .int := ⟨rfl, by decide, by decide, by decide, by decide⟩
theorem ly_a311 : ly_A 311 4 .int := ⟨rfl, by decide, by decide, by decide, by decide⟩
