/-! the constants of the program (written by wip/tools/eq.py) -/
theorem qk_am1 : Int32.ofInt (-1) = (-1 : Int32) := rfl
theorem qk_a0 : Int32.ofInt (0) = (0 : Int32) := rfl
theorem qk_a1 : Int32.ofInt (1) = (1 : Int32) := rfl
theorem qk_a2 : Int32.ofInt (2) = (2 : Int32) := rfl
theorem qk_a3 : Int32.ofInt (3) = (3 : Int32) := rfl
theorem qk_a4 : Int32.ofInt (4) = (4 : Int32) := rfl
theorem qk_a5 : Int32.ofInt (5) = (5 : Int32) := rfl
theorem qk_b6 : (Int8.ofInt 6).toInt32 = (6 : Int32) := rfl
theorem qk_b7 : (Int8.ofInt 7).toInt32 = (7 : Int32) := rfl
theorem qk_b10 : (Int8.ofInt 10).toInt32 = (10 : Int32) := rfl
theorem qk_b15 : (Int8.ofInt 15).toInt32 = (15 : Int32) := rfl
theorem qk_b16 : (Int8.ofInt 16).toInt32 = (16 : Int32) := rfl
theorem qk_b20 : (Int8.ofInt 20).toInt32 = (20 : Int32) := rfl
theorem qk_b24 : (Int8.ofInt 24).toInt32 = (24 : Int32) := rfl
theorem qk_b25 : (Int8.ofInt 25).toInt32 = (25 : Int32) := rfl
theorem qk_b33 : (Int8.ofInt 33).toInt32 = (33 : Int32) := rfl
theorem qk_b48 : (Int8.ofInt 48).toInt32 = (48 : Int32) := rfl
theorem qk_b50 : (Int8.ofInt 50).toInt32 = (50 : Int32) := rfl
theorem qk_b52 : (Int8.ofInt 52).toInt32 = (52 : Int32) := rfl
theorem qk_b57 : (Int8.ofInt 57).toInt32 = (57 : Int32) := rfl
theorem qk_b59 : (Int8.ofInt 59).toInt32 = (59 : Int32) := rfl
theorem qk_b60 : (Int8.ofInt 60).toInt32 = (60 : Int32) := rfl
theorem qk_b97 : (Int8.ofInt 97).toInt32 = (97 : Int32) := rfl
theorem qk_b98 : (Int8.ofInt 98).toInt32 = (98 : Int32) := rfl
theorem qk_b100 : (Int8.ofInt 100).toInt32 = (100 : Int32) := rfl
theorem qk_b110 : (Int8.ofInt 110).toInt32 = (110 : Int32) := rfl
theorem qk_b112 : (Int8.ofInt 112).toInt32 = (112 : Int32) := rfl
theorem qk_b113 : (Int8.ofInt 113).toInt32 = (113 : Int32) := rfl
theorem qk_b114 : (Int8.ofInt 114).toInt32 = (114 : Int32) := rfl
theorem qk_b116 : (Int8.ofInt 116).toInt32 = (116 : Int32) := rfl
theorem qk_b126 : (Int8.ofInt 126).toInt32 = (126 : Int32) := rfl
theorem qk_c138 : (Int16.ofInt 138).toInt32 = (138 : Int32) := rfl
theorem qk_c139 : (Int16.ofInt 139).toInt32 = (139 : Int32) := rfl
theorem qk_c140 : (Int16.ofInt 140).toInt32 = (140 : Int32) := rfl
theorem qk_c141 : (Int16.ofInt 141).toInt32 = (141 : Int32) := rfl
theorem qk_c142 : (Int16.ofInt 142).toInt32 = (142 : Int32) := rfl
theorem qk_c143 : (Int16.ofInt 143).toInt32 = (143 : Int32) := rfl
theorem qk_c144 : (Int16.ofInt 144).toInt32 = (144 : Int32) := rfl
theorem qk_c145 : (Int16.ofInt 145).toInt32 = (145 : Int32) := rfl
theorem qk_c146 : (Int16.ofInt 146).toInt32 = (146 : Int32) := rfl
theorem qk_c147 : (Int16.ofInt 147).toInt32 = (147 : Int32) := rfl
theorem qk_c150 : (Int16.ofInt 150).toInt32 = (150 : Int32) := rfl
theorem qk_c163 : (Int16.ofInt 163).toInt32 = (163 : Int32) := rfl
theorem qk_c164 : (Int16.ofInt 164).toInt32 = (164 : Int32) := rfl
theorem qk_c165 : (Int16.ofInt 165).toInt32 = (165 : Int32) := rfl
theorem qk_c166 : (Int16.ofInt 166).toInt32 = (166 : Int32) := rfl
theorem qk_c167 : (Int16.ofInt 167).toInt32 = (167 : Int32) := rfl
theorem qk_c168 : (Int16.ofInt 168).toInt32 = (168 : Int32) := rfl
theorem qk_c169 : (Int16.ofInt 169).toInt32 = (169 : Int32) := rfl
theorem qk_c170 : (Int16.ofInt 170).toInt32 = (170 : Int32) := rfl
theorem qk_c171 : (Int16.ofInt 171).toInt32 = (171 : Int32) := rfl
theorem qk_c172 : (Int16.ofInt 172).toInt32 = (172 : Int32) := rfl
theorem qk_c173 : (Int16.ofInt 173).toInt32 = (173 : Int32) := rfl
theorem qk_c174 : (Int16.ofInt 174).toInt32 = (174 : Int32) := rfl
theorem qk_c175 : (Int16.ofInt 175).toInt32 = (175 : Int32) := rfl
theorem qk_c176 : (Int16.ofInt 176).toInt32 = (176 : Int32) := rfl
theorem qk_c400 : (Int16.ofInt 400).toInt32 = (400 : Int32) := rfl
theorem qk_c880 : (Int16.ofInt 880).toInt32 = (880 : Int32) := rfl
theorem qk_c1000 : (Int16.ofInt 1000).toInt32 = (1000 : Int32) := rfl
theorem qk_c1023 : (Int16.ofInt 1023).toInt32 = (1023 : Int32) := rfl
theorem qk_n0 : (0 : Int32).toNatClampNeg = 0 := rfl
theorem qk_n1 : (1 : Int32).toNatClampNeg = 1 := rfl
theorem qk_n2 : (2 : Int32).toNatClampNeg = 2 := rfl
theorem qk_n3 : (3 : Int32).toNatClampNeg = 3 := rfl
theorem qk_n4 : (4 : Int32).toNatClampNeg = 4 := rfl
theorem qk_n5 : (5 : Int32).toNatClampNeg = 5 := rfl
theorem qk_n6 : (6 : Int32).toNatClampNeg = 6 := rfl
theorem qk_n7 : (7 : Int32).toNatClampNeg = 7 := rfl
theorem qk_n10 : (10 : Int32).toNatClampNeg = 10 := rfl
theorem qk_n15 : (15 : Int32).toNatClampNeg = 15 := rfl
theorem qk_n16 : (16 : Int32).toNatClampNeg = 16 := rfl
theorem qk_n20 : (20 : Int32).toNatClampNeg = 20 := rfl
theorem qk_n24 : (24 : Int32).toNatClampNeg = 24 := rfl
theorem qk_n25 : (25 : Int32).toNatClampNeg = 25 := rfl
theorem qk_n33 : (33 : Int32).toNatClampNeg = 33 := rfl
theorem qk_n48 : (48 : Int32).toNatClampNeg = 48 := rfl
theorem qk_n50 : (50 : Int32).toNatClampNeg = 50 := rfl
theorem qk_n52 : (52 : Int32).toNatClampNeg = 52 := rfl
theorem qk_n57 : (57 : Int32).toNatClampNeg = 57 := rfl
theorem qk_n59 : (59 : Int32).toNatClampNeg = 59 := rfl
theorem qk_n60 : (60 : Int32).toNatClampNeg = 60 := rfl
theorem qk_n97 : (97 : Int32).toNatClampNeg = 97 := rfl
theorem qk_n98 : (98 : Int32).toNatClampNeg = 98 := rfl
theorem qk_n100 : (100 : Int32).toNatClampNeg = 100 := rfl
theorem qk_n110 : (110 : Int32).toNatClampNeg = 110 := rfl
theorem qk_n112 : (112 : Int32).toNatClampNeg = 112 := rfl
theorem qk_n113 : (113 : Int32).toNatClampNeg = 113 := rfl
theorem qk_n114 : (114 : Int32).toNatClampNeg = 114 := rfl
theorem qk_n116 : (116 : Int32).toNatClampNeg = 116 := rfl
theorem qk_n126 : (126 : Int32).toNatClampNeg = 126 := rfl
theorem qk_n138 : (138 : Int32).toNatClampNeg = 138 := rfl
theorem qk_n139 : (139 : Int32).toNatClampNeg = 139 := rfl
theorem qk_n140 : (140 : Int32).toNatClampNeg = 140 := rfl
theorem qk_n141 : (141 : Int32).toNatClampNeg = 141 := rfl
theorem qk_n142 : (142 : Int32).toNatClampNeg = 142 := rfl
theorem qk_n143 : (143 : Int32).toNatClampNeg = 143 := rfl
theorem qk_n144 : (144 : Int32).toNatClampNeg = 144 := rfl
theorem qk_n145 : (145 : Int32).toNatClampNeg = 145 := rfl
theorem qk_n146 : (146 : Int32).toNatClampNeg = 146 := rfl
theorem qk_n147 : (147 : Int32).toNatClampNeg = 147 := rfl
theorem qk_n150 : (150 : Int32).toNatClampNeg = 150 := rfl
theorem qk_n163 : (163 : Int32).toNatClampNeg = 163 := rfl
theorem qk_n164 : (164 : Int32).toNatClampNeg = 164 := rfl
theorem qk_n165 : (165 : Int32).toNatClampNeg = 165 := rfl
theorem qk_n166 : (166 : Int32).toNatClampNeg = 166 := rfl
theorem qk_n167 : (167 : Int32).toNatClampNeg = 167 := rfl
theorem qk_n168 : (168 : Int32).toNatClampNeg = 168 := rfl
theorem qk_n169 : (169 : Int32).toNatClampNeg = 169 := rfl
theorem qk_n170 : (170 : Int32).toNatClampNeg = 170 := rfl
theorem qk_n171 : (171 : Int32).toNatClampNeg = 171 := rfl
theorem qk_n172 : (172 : Int32).toNatClampNeg = 172 := rfl
theorem qk_n173 : (173 : Int32).toNatClampNeg = 173 := rfl
theorem qk_n174 : (174 : Int32).toNatClampNeg = 174 := rfl
theorem qk_n175 : (175 : Int32).toNatClampNeg = 175 := rfl
theorem qk_n176 : (176 : Int32).toNatClampNeg = 176 := rfl
theorem qk_n400 : (400 : Int32).toNatClampNeg = 400 := rfl
theorem qk_n880 : (880 : Int32).toNatClampNeg = 880 := rfl
theorem qk_n1000 : (1000 : Int32).toNatClampNeg = 1000 := rfl
theorem qk_n1023 : (1023 : Int32).toNatClampNeg = 1023 := rfl
theorem qk_tm1 : (-1 : Int32).toInt = -1 := rfl
theorem qk_t0 : (0 : Int32).toInt = 0 := rfl
theorem qk_t1 : (1 : Int32).toInt = 1 := rfl
theorem qk_t2 : (2 : Int32).toInt = 2 := rfl
theorem qk_t3 : (3 : Int32).toInt = 3 := rfl
theorem qk_t4 : (4 : Int32).toInt = 4 := rfl
theorem qk_t5 : (5 : Int32).toInt = 5 := rfl
theorem qk_t6 : (6 : Int32).toInt = 6 := rfl
theorem qk_t7 : (7 : Int32).toInt = 7 := rfl
theorem qk_t10 : (10 : Int32).toInt = 10 := rfl
theorem qk_t15 : (15 : Int32).toInt = 15 := rfl
theorem qk_t16 : (16 : Int32).toInt = 16 := rfl
theorem qk_t20 : (20 : Int32).toInt = 20 := rfl
theorem qk_t24 : (24 : Int32).toInt = 24 := rfl
theorem qk_t25 : (25 : Int32).toInt = 25 := rfl
theorem qk_t33 : (33 : Int32).toInt = 33 := rfl
theorem qk_t48 : (48 : Int32).toInt = 48 := rfl
theorem qk_t50 : (50 : Int32).toInt = 50 := rfl
theorem qk_t52 : (52 : Int32).toInt = 52 := rfl
theorem qk_t57 : (57 : Int32).toInt = 57 := rfl
theorem qk_t59 : (59 : Int32).toInt = 59 := rfl
theorem qk_t60 : (60 : Int32).toInt = 60 := rfl
theorem qk_t97 : (97 : Int32).toInt = 97 := rfl
theorem qk_t98 : (98 : Int32).toInt = 98 := rfl
theorem qk_t100 : (100 : Int32).toInt = 100 := rfl
theorem qk_t110 : (110 : Int32).toInt = 110 := rfl
theorem qk_t112 : (112 : Int32).toInt = 112 := rfl
theorem qk_t113 : (113 : Int32).toInt = 113 := rfl
theorem qk_t114 : (114 : Int32).toInt = 114 := rfl
theorem qk_t116 : (116 : Int32).toInt = 116 := rfl
theorem qk_t126 : (126 : Int32).toInt = 126 := rfl
theorem qk_t138 : (138 : Int32).toInt = 138 := rfl
theorem qk_t139 : (139 : Int32).toInt = 139 := rfl
theorem qk_t140 : (140 : Int32).toInt = 140 := rfl
theorem qk_t141 : (141 : Int32).toInt = 141 := rfl
theorem qk_t142 : (142 : Int32).toInt = 142 := rfl
theorem qk_t143 : (143 : Int32).toInt = 143 := rfl
theorem qk_t144 : (144 : Int32).toInt = 144 := rfl
theorem qk_t145 : (145 : Int32).toInt = 145 := rfl
theorem qk_t146 : (146 : Int32).toInt = 146 := rfl
theorem qk_t147 : (147 : Int32).toInt = 147 := rfl
theorem qk_t150 : (150 : Int32).toInt = 150 := rfl
theorem qk_t163 : (163 : Int32).toInt = 163 := rfl
theorem qk_t164 : (164 : Int32).toInt = 164 := rfl
theorem qk_t165 : (165 : Int32).toInt = 165 := rfl
theorem qk_t166 : (166 : Int32).toInt = 166 := rfl
theorem qk_t167 : (167 : Int32).toInt = 167 := rfl
theorem qk_t168 : (168 : Int32).toInt = 168 := rfl
theorem qk_t169 : (169 : Int32).toInt = 169 := rfl
theorem qk_t170 : (170 : Int32).toInt = 170 := rfl
theorem qk_t171 : (171 : Int32).toInt = 171 := rfl
theorem qk_t172 : (172 : Int32).toInt = 172 := rfl
theorem qk_t173 : (173 : Int32).toInt = 173 := rfl
theorem qk_t174 : (174 : Int32).toInt = 174 := rfl
theorem qk_t175 : (175 : Int32).toInt = 175 := rfl
theorem qk_t176 : (176 : Int32).toInt = 176 := rfl
theorem qk_t400 : (400 : Int32).toInt = 400 := rfl
theorem qk_t880 : (880 : Int32).toInt = 880 := rfl
theorem qk_t1000 : (1000 : Int32).toInt = 1000 := rfl
theorem qk_t1023 : (1023 : Int32).toInt = 1023 := rfl
theorem qk_i0 : (0 : Int32) = nI 0 := rfl
theorem qk_i1 : (1 : Int32) = nI 1 := rfl
theorem qk_i2 : (2 : Int32) = nI 2 := rfl
theorem qk_i3 : (3 : Int32) = nI 3 := rfl
theorem qk_i4 : (4 : Int32) = nI 4 := rfl
theorem qk_i5 : (5 : Int32) = nI 5 := rfl
theorem qk_i6 : (6 : Int32) = nI 6 := rfl
theorem qk_i7 : (7 : Int32) = nI 7 := rfl
theorem qk_i10 : (10 : Int32) = nI 10 := rfl
theorem qk_i15 : (15 : Int32) = nI 15 := rfl
theorem qk_i16 : (16 : Int32) = nI 16 := rfl
theorem qk_i20 : (20 : Int32) = nI 20 := rfl
theorem qk_i24 : (24 : Int32) = nI 24 := rfl
theorem qk_i25 : (25 : Int32) = nI 25 := rfl
theorem qk_i33 : (33 : Int32) = nI 33 := rfl
theorem qk_i48 : (48 : Int32) = nI 48 := rfl
theorem qk_i50 : (50 : Int32) = nI 50 := rfl
theorem qk_i52 : (52 : Int32) = nI 52 := rfl
theorem qk_i57 : (57 : Int32) = nI 57 := rfl
theorem qk_i59 : (59 : Int32) = nI 59 := rfl
theorem qk_i60 : (60 : Int32) = nI 60 := rfl
theorem qk_i97 : (97 : Int32) = nI 97 := rfl
theorem qk_i98 : (98 : Int32) = nI 98 := rfl
theorem qk_i100 : (100 : Int32) = nI 100 := rfl
theorem qk_i110 : (110 : Int32) = nI 110 := rfl
theorem qk_i112 : (112 : Int32) = nI 112 := rfl
theorem qk_i113 : (113 : Int32) = nI 113 := rfl
theorem qk_i114 : (114 : Int32) = nI 114 := rfl
theorem qk_i116 : (116 : Int32) = nI 116 := rfl
theorem qk_i126 : (126 : Int32) = nI 126 := rfl
theorem qk_i138 : (138 : Int32) = nI 138 := rfl
theorem qk_i139 : (139 : Int32) = nI 139 := rfl
theorem qk_i140 : (140 : Int32) = nI 140 := rfl
theorem qk_i141 : (141 : Int32) = nI 141 := rfl
theorem qk_i142 : (142 : Int32) = nI 142 := rfl
theorem qk_i143 : (143 : Int32) = nI 143 := rfl
theorem qk_i144 : (144 : Int32) = nI 144 := rfl
theorem qk_i145 : (145 : Int32) = nI 145 := rfl
theorem qk_i146 : (146 : Int32) = nI 146 := rfl
theorem qk_i147 : (147 : Int32) = nI 147 := rfl
theorem qk_i150 : (150 : Int32) = nI 150 := rfl
theorem qk_i163 : (163 : Int32) = nI 163 := rfl
theorem qk_i164 : (164 : Int32) = nI 164 := rfl
theorem qk_i165 : (165 : Int32) = nI 165 := rfl
theorem qk_i166 : (166 : Int32) = nI 166 := rfl
theorem qk_i167 : (167 : Int32) = nI 167 := rfl
theorem qk_i168 : (168 : Int32) = nI 168 := rfl
theorem qk_i169 : (169 : Int32) = nI 169 := rfl
theorem qk_i170 : (170 : Int32) = nI 170 := rfl
theorem qk_i171 : (171 : Int32) = nI 171 := rfl
theorem qk_i172 : (172 : Int32) = nI 172 := rfl
theorem qk_i173 : (173 : Int32) = nI 173 := rfl
theorem qk_i174 : (174 : Int32) = nI 174 := rfl
theorem qk_i175 : (175 : Int32) = nI 175 := rfl
theorem qk_i176 : (176 : Int32) = nI 176 := rfl
theorem qk_i400 : (400 : Int32) = nI 400 := rfl
theorem qk_i880 : (880 : Int32) = nI 880 := rfl
theorem qk_i1000 : (1000 : Int32) = nI 1000 := rfl
theorem qk_i1023 : (1023 : Int32) = nI 1023 := rfl
