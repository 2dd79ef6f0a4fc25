/-! each table is the bytecode, each link a word of the tables: decided by the kernel -/
set_option maxRecDepth 100000 in
theorem rf_k0 : rf_chkT rf_ms rf_m0 21 = true := by decide +kernel
set_option maxRecDepth 100000 in
theorem rf_k1 : rf_chkT rf_ms rf_m1 34 = true := by decide +kernel
set_option maxRecDepth 100000 in
theorem rf_k2 : rf_chkT rf_ms rf_m2 23 = true := by decide +kernel
set_option maxRecDepth 100000 in
theorem rf_k3 : rf_chkT rf_ms rf_m3 24 = true := by decide +kernel
set_option maxRecDepth 100000 in
theorem rf_k4 : rf_chkT rf_ms rf_m4 41 = true := by decide +kernel
set_option maxRecDepth 100000 in
theorem rf_k5 : rf_chkT rf_ms rf_m5 41 = true := by decide +kernel
set_option maxRecDepth 100000 in
theorem rf_k6 : rf_chkT rf_ms rf_m6 16 = true := by decide +kernel
set_option maxRecDepth 100000 in
theorem rf_k7 : rf_chkT rf_ms rf_m7 119 = true := by decide +kernel
set_option maxRecDepth 100000 in
theorem rf_k8 : rf_chkT rf_ms rf_m8 282 = true := by decide +kernel
set_option maxRecDepth 100000 in
theorem rf_k9 : rf_chkT rf_ms rf_m9 37 = true := by decide +kernel
set_option maxRecDepth 100000 in
theorem rf_k10 : rf_chkT rf_ms rf_m10 70 = true := by decide +kernel
set_option maxRecDepth 100000 in
theorem rf_k11 : rf_chkT rf_ms rf_m11 67 = true := by decide +kernel
set_option maxRecDepth 100000 in
theorem rf_k12 : rf_chkT rf_ms rf_m12 67 = true := by decide +kernel
set_option maxRecDepth 100000 in
theorem rf_k13 : rf_chkT rf_ms rf_m13 76 = true := by decide +kernel
set_option maxRecDepth 100000 in
theorem rf_k14 : rf_chkT rf_ms rf_m14 94 = true := by decide +kernel
set_option maxRecDepth 100000 in
theorem rf_k15 : rf_chkT rf_ms rf_m15 88 = true := by decide +kernel
set_option maxRecDepth 100000 in
theorem rf_k16 : rf_chkT rf_ms rf_m16 7 = true := by decide +kernel
set_option maxRecDepth 100000 in
theorem rf_k17 : rf_chkT rf_ms rf_m17 13 = true := by decide +kernel
set_option maxRecDepth 100000 in
theorem rf_k18 : rf_chkT rf_ms rf_m18 36 = true := by decide +kernel
set_option maxRecDepth 100000 in
theorem rf_k19 : rf_chkT rf_ms rf_m19 254 = true := by decide +kernel
set_option maxRecDepth 100000 in
theorem rf_k20 : rf_chkT rf_ms rf_m20 23 = true := by decide +kernel
set_option maxRecDepth 100000 in
theorem rf_k21 : rf_chkT rf_ms rf_m21 96 = true := by decide +kernel
set_option maxRecDepth 100000 in
theorem rf_k22 : rf_chkT rf_ms rf_m22 200 = true := by decide +kernel
set_option maxRecDepth 100000 in
theorem rf_k23 : rf_chkT rf_ms rf_m23 97 = true := by decide +kernel
set_option maxRecDepth 100000 in
theorem rf_k24 : rf_chkT rf_ms rf_m24 32 = true := by decide +kernel
set_option maxRecDepth 100000 in
theorem rf_k25 : rf_chkT rf_ms rf_m25 83 = true := by decide +kernel
set_option maxRecDepth 100000 in
theorem rf_k26 : rf_chkT rf_ms rf_m26 175 = true := by decide +kernel
set_option maxRecDepth 100000 in
theorem rf_k27 : rf_chkT rf_ms rf_m27 63 = true := by decide +kernel
set_option maxRecDepth 100000 in
theorem rf_k28 : rf_chkT rf_ms rf_m28 34 = true := by decide +kernel
set_option maxRecDepth 100000 in
theorem rf_k29 : rf_chkT rf_ms rf_m29 58 = true := by decide +kernel
set_option maxRecDepth 100000 in
theorem rf_k30 : rf_chkT rf_ms rf_m30 32 = true := by decide +kernel
set_option maxRecDepth 100000 in
theorem rf_k31 : rf_chkT rf_ms rf_m31 30 = true := by decide +kernel
set_option maxRecDepth 100000 in
theorem rf_k32 : rf_chkT rf_ms rf_m32 113 = true := by decide +kernel
set_option maxRecDepth 100000 in
theorem rf_k33 : rf_chkT rf_ms rf_m33 100 = true := by decide +kernel
set_option maxRecDepth 100000 in
theorem rf_k34 : rf_chkT rf_ms rf_m34 148 = true := by decide +kernel
set_option maxRecDepth 100000 in
theorem rf_k35 : rf_chkT rf_ms rf_m35 23 = true := by decide +kernel
set_option maxRecDepth 100000 in
theorem rf_k36 : rf_chkT rf_ms rf_m36 63 = true := by decide +kernel
set_option maxRecDepth 100000 in
theorem rf_k37 : rf_chkT rf_ms rf_m37 104 = true := by decide +kernel
set_option maxRecDepth 100000 in
theorem rf_k38 : rf_chkT rf_ms rf_m38 74 = true := by decide +kernel
set_option maxRecDepth 100000 in
theorem rf_k39 : rf_chkT rf_ms rf_m39 150 = true := by decide +kernel
set_option maxRecDepth 100000 in
theorem rf_k40 : rf_chkT rf_ms rf_m40 242 = true := by decide +kernel
set_option maxRecDepth 100000 in
theorem rf_k41 : rf_chkT rf_ms rf_m41 19 = true := by decide +kernel
set_option maxRecDepth 100000 in
theorem rf_k42 : rf_chkT rf_ms rf_m42 181 = true := by decide +kernel
set_option maxRecDepth 100000 in
theorem rf_k43 : rf_chkT rf_ms rf_m43 13 = true := by decide +kernel
set_option maxRecDepth 100000 in
theorem rf_k44 : rf_chkT rf_ms rf_m44 56 = true := by decide +kernel
set_option maxRecDepth 100000 in
theorem rf_k45 : rf_chkT rf_ms rf_m45 16 = true := by decide +kernel
set_option maxRecDepth 100000 in
theorem rf_k46 : rf_chkT rf_ms rf_m46 55 = true := by decide +kernel
set_option maxRecDepth 100000 in
theorem rf_k47 : rf_chkT rf_ms rf_m47 51 = true := by decide +kernel
set_option maxRecDepth 100000 in
theorem rf_k48 : rf_chkT rf_ms rf_m48 26 = true := by decide +kernel
set_option maxRecDepth 100000 in
theorem rf_k49 : rf_chkT rf_ms rf_m49 62 = true := by decide +kernel
set_option maxRecDepth 100000 in
theorem rf_k50 : rf_chkT rf_ms rf_m50 16 = true := by decide +kernel
set_option maxRecDepth 100000 in
theorem rf_k51 : rf_chkT rf_ms rf_m51 25 = true := by decide +kernel
set_option maxRecDepth 100000 in
theorem rf_k52 : rf_chkT rf_ms rf_m52 29 = true := by decide +kernel
set_option maxRecDepth 100000 in
theorem rf_k53 : rf_chkT rf_ms rf_m53 41 = true := by decide +kernel
set_option maxRecDepth 100000 in
theorem rf_k54 : rf_chkT rf_ms rf_m54 53 = true := by decide +kernel
set_option maxRecDepth 100000 in
theorem rf_k55 : rf_chkT rf_ms rf_m55 36 = true := by decide +kernel
set_option maxRecDepth 100000 in
theorem rf_k56 : rf_chkT rf_ms rf_m56 31 = true := by decide +kernel
set_option maxRecDepth 100000 in
theorem rf_k57 : rf_chkT rf_ms rf_m57 43 = true := by decide +kernel
set_option maxRecDepth 100000 in
theorem rf_k58 : rf_chkT rf_ms rf_m58 22 = true := by decide +kernel
set_option maxRecDepth 100000 in
theorem rf_k59 : rf_chkT rf_ms rf_m59 64 = true := by decide +kernel
set_option maxRecDepth 100000 in
theorem rf_k60 : rf_chkT rf_ms rf_m60 12 = true := by decide +kernel
set_option maxRecDepth 100000 in
theorem rf_k61 : rf_chkT rf_ms rf_m61 27 = true := by decide +kernel
set_option maxRecDepth 100000 in
theorem rf_k62 : rf_chkT rf_ms rf_m62 41 = true := by decide +kernel
set_option maxRecDepth 100000 in
theorem rf_k63 : rf_chkT rf_ms rf_m63 72 = true := by decide +kernel
set_option maxRecDepth 100000 in
theorem rf_k64 : rf_chkT rf_ms rf_m64 18 = true := by decide +kernel
set_option maxRecDepth 100000 in
theorem rf_k65 : rf_chkT rf_ms rf_m65 18 = true := by decide +kernel
set_option maxRecDepth 100000 in
theorem rf_k66 : rf_chkT rf_ms rf_m66 32 = true := by decide +kernel
set_option maxRecDepth 100000 in
theorem rf_k67 : rf_chkT rf_ms rf_m67 55 = true := by decide +kernel
set_option maxRecDepth 100000 in
theorem rf_k68 : rf_chkT rf_ms rf_m68 67 = true := by decide +kernel
set_option maxRecDepth 100000 in
theorem rf_k69 : rf_chkT rf_ms rf_m69 21 = true := by decide +kernel
set_option maxRecDepth 100000 in
theorem rf_k70 : rf_chkT rf_ms rf_m70 136 = true := by decide +kernel
set_option maxRecDepth 100000 in
theorem rf_k71 : rf_chkT rf_ms rf_m71 104 = true := by decide +kernel
set_option maxRecDepth 100000 in
theorem rf_k72 : rf_chkT rf_ms rf_m72 32 = true := by decide +kernel
set_option maxRecDepth 100000 in
theorem rf_k73 : rf_chkT rf_ms rf_m73 36 = true := by decide +kernel
set_option maxRecDepth 100000 in
theorem rf_k74 : rf_chkT rf_ms rf_m74 76 = true := by decide +kernel
set_option maxRecDepth 100000 in
theorem rf_k75 : rf_chkT rf_ms rf_m75 31 = true := by decide +kernel
set_option maxRecDepth 100000 in
theorem rf_k76 : rf_chkT rf_ms rf_m76 91 = true := by decide +kernel
set_option maxRecDepth 100000 in
theorem rf_k77 : rf_chkT rf_ms rf_m77 61 = true := by decide +kernel
set_option maxRecDepth 100000 in
theorem rf_k78 : rf_chkT rf_ms rf_m78 43 = true := by decide +kernel
set_option maxRecDepth 100000 in
theorem rf_k79 : rf_chkT rf_ms rf_m79 33 = true := by decide +kernel
set_option maxRecDepth 100000 in
theorem rf_k80 : rf_chkT rf_ms rf_m80 125 = true := by decide +kernel
set_option maxRecDepth 100000 in
theorem rf_k81 : rf_chkT rf_ms rf_m81 145 = true := by decide +kernel
set_option maxRecDepth 100000 in
theorem rf_k82 : rf_chkT rf_ms rf_m82 85 = true := by decide +kernel
set_option maxRecDepth 100000 in
theorem rf_k83 : rf_chkT rf_ms rf_m83 145 = true := by decide +kernel
set_option maxRecDepth 100000 in
theorem rf_k84 : rf_chkT rf_ms rf_m84 145 = true := by decide +kernel
set_option maxRecDepth 100000 in
theorem rf_k85 : rf_chkT rf_ms rf_m85 86 = true := by decide +kernel
set_option maxRecDepth 100000 in
theorem rf_k86 : rf_chkT rf_ms rf_m86 58 = true := by decide +kernel
set_option maxRecDepth 100000 in
theorem rf_k87 : rf_chkT rf_ms rf_m87 78 = true := by decide +kernel
set_option maxRecDepth 100000 in
theorem rf_k88 : rf_chkT rf_ms rf_m88 87 = true := by decide +kernel
set_option maxRecDepth 100000 in
theorem rf_k89 : rf_chkT rf_ms rf_m89 53 = true := by decide +kernel
set_option maxRecDepth 100000 in
theorem rf_k90 : rf_chkT rf_ms rf_m90 69 = true := by decide +kernel
set_option maxRecDepth 100000 in
theorem rf_k91 : rf_chkT rf_ms rf_m91 98 = true := by decide +kernel
set_option maxRecDepth 100000 in
theorem rf_k92 : rf_chkT rf_ms rf_m92 21 = true := by decide +kernel
set_option maxRecDepth 100000 in
theorem rf_k93 : rf_chkT rf_ms rf_m93 22 = true := by decide +kernel
set_option maxRecDepth 100000 in
theorem rf_k94 : rf_chkT rf_ms rf_m94 99 = true := by decide +kernel
set_option maxRecDepth 100000 in
theorem rf_k95 : rf_chkT rf_ms rf_m95 71 = true := by decide +kernel
set_option maxRecDepth 100000 in
theorem rf_k96 : rf_chkT rf_ms rf_m96 35 = true := by decide +kernel
set_option maxRecDepth 100000 in
theorem rf_k97 : rf_chkT rf_ms rf_m97 61 = true := by decide +kernel
set_option maxRecDepth 100000 in
theorem rf_k98 : rf_chkT rf_ms rf_m98 20 = true := by decide +kernel
set_option maxRecDepth 100000 in
theorem rf_k99 : rf_chkT rf_ms rf_m99 154 = true := by decide +kernel
set_option maxRecDepth 100000 in
theorem rf_k100 : rf_chkT rf_ms rf_m100 77 = true := by decide +kernel
set_option maxRecDepth 100000 in
theorem rf_k101 : rf_chkT rf_ms rf_m101 78 = true := by decide +kernel
set_option maxRecDepth 100000 in
theorem rf_k102 : rf_chkT rf_ms rf_m102 22 = true := by decide +kernel
set_option maxRecDepth 100000 in
theorem rf_k103 : rf_chkT rf_ms rf_m103 8 = true := by decide +kernel
set_option maxRecDepth 100000 in
theorem rf_k104 : rf_chkT rf_ms rf_m104 52 = true := by decide +kernel
set_option maxRecDepth 100000 in
theorem rf_k105 : rf_chkT rf_ms rf_m105 70 = true := by decide +kernel
set_option maxRecDepth 100000 in
theorem rf_k106 : rf_chkT rf_ms rf_m106 57 = true := by decide +kernel
set_option maxRecDepth 100000 in
theorem rf_k107 : rf_chkT rf_ms rf_m107 20 = true := by decide +kernel
set_option maxRecDepth 100000 in
theorem rf_k108 : rf_chkT rf_ms rf_m108 15 = true := by decide +kernel
set_option maxRecDepth 100000 in
theorem rf_k109 : rf_chkT rf_ms rf_m109 25 = true := by decide +kernel
set_option maxRecDepth 100000 in
theorem rf_k110 : rf_chkT rf_ms rf_m110 31 = true := by decide +kernel
set_option maxRecDepth 100000 in
theorem rf_k111 : rf_chkT rf_ms rf_m111 42 = true := by decide +kernel
set_option maxRecDepth 100000 in
theorem rf_k112 : rf_chkT rf_ms rf_m112 24 = true := by decide +kernel
set_option maxRecDepth 100000 in
theorem rf_k113 : rf_chkT rf_ms rf_m113 24 = true := by decide +kernel
set_option maxRecDepth 100000 in
theorem rf_k114 : rf_chkT rf_ms rf_m114 8 = true := by decide +kernel
set_option maxRecDepth 100000 in
theorem rf_k115 : rf_chkT rf_ms rf_m115 68 = true := by decide +kernel
set_option maxRecDepth 100000 in
theorem rf_k116 : rf_chkT rf_ms rf_m116 21 = true := by decide +kernel
set_option maxRecDepth 100000 in
theorem rf_k117 : rf_chkT rf_ms rf_m117 68 = true := by decide +kernel
set_option maxRecDepth 100000 in
theorem rf_k118 : rf_chkT rf_ms rf_m118 40 = true := by decide +kernel
set_option maxRecDepth 100000 in
theorem rf_k119 : rf_chkT rf_ms rf_m119 52 = true := by decide +kernel
set_option maxRecDepth 100000 in
theorem rf_k120 : rf_chkT rf_ms rf_m120 52 = true := by decide +kernel
set_option maxRecDepth 100000 in
theorem rf_k121 : rf_chkT rf_ms rf_m121 12 = true := by decide +kernel
set_option maxRecDepth 100000 in
theorem rf_k122 : rf_chkT rf_ms rf_m122 27 = true := by decide +kernel
set_option maxRecDepth 100000 in
theorem rf_k123 : rf_chkT rf_ms rf_m123 27 = true := by decide +kernel
set_option maxRecDepth 100000 in
theorem rf_k124 : rf_chkT rf_ms rf_m124 27 = true := by decide +kernel
set_option maxRecDepth 100000 in
theorem rf_k125 : rf_chkT rf_ms rf_m125 21 = true := by decide +kernel
set_option maxRecDepth 100000 in
theorem rf_k126 : rf_chkT rf_ms rf_m126 11 = true := by decide +kernel
set_option maxRecDepth 100000 in
theorem rf_k127 : rf_chkT rf_ms rf_m127 25 = true := by decide +kernel
set_option maxRecDepth 100000 in
theorem rf_k128 : rf_chkT rf_ms rf_m128 40 = true := by decide +kernel
set_option maxRecDepth 100000 in
theorem rf_k129 : rf_chkT rf_ms rf_m129 47 = true := by decide +kernel
set_option maxRecDepth 100000 in
theorem rf_k130 : rf_chkT rf_ms rf_m130 44 = true := by decide +kernel
set_option maxRecDepth 100000 in
theorem rf_k131 : rf_chkT rf_ms rf_m131 37 = true := by decide +kernel
set_option maxRecDepth 100000 in
theorem rf_k132 : rf_chkT rf_ms rf_m132 92 = true := by decide +kernel
set_option maxRecDepth 100000 in
theorem rf_k133 : rf_chkT rf_ms rf_m133 88 = true := by decide +kernel
set_option maxRecDepth 100000 in
theorem rf_k134 : rf_chkT rf_ms rf_m134 123 = true := by decide +kernel
set_option maxRecDepth 100000 in
theorem rf_k135 : rf_chkT rf_ms rf_m135 6 = true := by decide +kernel
set_option maxRecDepth 100000 in
theorem rf_k136 : rf_chkT rf_ms rf_m136 11 = true := by decide +kernel
set_option maxRecDepth 100000 in
theorem rf_k137 : rf_chkT rf_ms rf_m137 15 = true := by decide +kernel
set_option maxRecDepth 100000 in
theorem rf_k138 : rf_chkT rf_ms rf_m138 19 = true := by decide +kernel
set_option maxRecDepth 100000 in
theorem rf_k139 : rf_chkT rf_ms rf_m139 22 = true := by decide +kernel
set_option maxRecDepth 100000 in
theorem rf_k140 : rf_chkT rf_ms rf_m140 15 = true := by decide +kernel
set_option maxRecDepth 100000 in
theorem rf_k141 : rf_chkT rf_ms rf_m141 240 = true := by decide +kernel
set_option maxRecDepth 100000 in
theorem rf_k142 : rf_chkT rf_ms rf_m142 154 = true := by decide +kernel
set_option maxRecDepth 100000 in
theorem rf_k143 : rf_chkT rf_ms rf_m143 48 = true := by decide +kernel
set_option maxRecDepth 100000 in
theorem rf_k144 : rf_chkT rf_ms rf_m144 57 = true := by decide +kernel
set_option maxRecDepth 100000 in
theorem rf_k145 : rf_chkT rf_ms rf_m145 14 = true := by decide +kernel
set_option maxRecDepth 100000 in
theorem rf_k146 : rf_chkT rf_ms rf_m146 14 = true := by decide +kernel
set_option maxRecDepth 100000 in
theorem rf_k147 : rf_chkT rf_ms rf_m147 68 = true := by decide +kernel
set_option maxRecDepth 100000 in
theorem rf_k148 : rf_chkT rf_ms rf_m148 60 = true := by decide +kernel
set_option maxRecDepth 100000 in
theorem rf_k149 : rf_chkT rf_ms rf_m149 52 = true := by decide +kernel
set_option maxRecDepth 100000 in
theorem rf_k150 : rf_chkT rf_ms rf_m150 239 = true := by decide +kernel
set_option maxRecDepth 100000 in
theorem rf_k151 : rf_chkT rf_ms rf_m151 32 = true := by decide +kernel
set_option maxRecDepth 100000 in
theorem rf_k152 : rf_chkT rf_ms rf_m152 210 = true := by decide +kernel
set_option maxRecDepth 100000 in
theorem rf_k153 : rf_chkT rf_ms rf_m153 20 = true := by decide +kernel
set_option maxRecDepth 100000 in
theorem rf_k154 : rf_chkT rf_ms rf_m154 82 = true := by decide +kernel
set_option maxRecDepth 100000 in
theorem rf_k155 : rf_chkT rf_ms rf_m155 172 = true := by decide +kernel
set_option maxRecDepth 100000 in
theorem rf_k156 : rf_chkT rf_ms rf_m156 97 = true := by decide +kernel
set_option maxRecDepth 100000 in
theorem rf_k157 : rf_chkT rf_ms rf_m157 15 = true := by decide +kernel
set_option maxRecDepth 100000 in
theorem rf_k158 : rf_chkT rf_ms rf_m158 51 = true := by decide +kernel
set_option maxRecDepth 100000 in
theorem rf_k159 : rf_chkT rf_ms rf_m159 49 = true := by decide +kernel
set_option maxRecDepth 100000 in
theorem rf_k160 : rf_chkT rf_ms rf_m160 24 = true := by decide +kernel
set_option maxRecDepth 100000 in
theorem rf_k161 : rf_chkT rf_ms rf_m161 29 = true := by decide +kernel
set_option maxRecDepth 100000 in
theorem rf_k162 : rf_chkT rf_ms rf_m162 38 = true := by decide +kernel
set_option maxRecDepth 100000 in
theorem rf_k163 : rf_chkT rf_ms rf_m163 38 = true := by decide +kernel
set_option maxRecDepth 100000 in
theorem rf_k164 : rf_chkT rf_ms rf_m164 91 = true := by decide +kernel
set_option maxRecDepth 100000 in
theorem rf_k165 : rf_chkT rf_ms rf_m165 79 = true := by decide +kernel
set_option maxRecDepth 100000 in
theorem rf_k166 : rf_chkT rf_ms rf_m166 96 = true := by decide +kernel
set_option maxRecDepth 100000 in
theorem rf_k167 : rf_chkT rf_ms rf_m167 74 = true := by decide +kernel
set_option maxRecDepth 100000 in
theorem rf_k168 : rf_chkT rf_ms rf_m168 243 = true := by decide +kernel
set_option maxRecDepth 100000 in
theorem rf_k169 : rf_chkT rf_ms rf_m169 133 = true := by decide +kernel
set_option maxRecDepth 100000 in
theorem rf_k170 : rf_chkT rf_ms rf_m170 67 = true := by decide +kernel
set_option maxRecDepth 100000 in
theorem rf_k171 : rf_chkT rf_ms rf_m171 135 = true := by decide +kernel
set_option maxRecDepth 100000 in
theorem rf_k172 : rf_chkT rf_ms rf_m172 72 = true := by decide +kernel
set_option maxRecDepth 100000 in
theorem rf_k173 : rf_chkT rf_ms rf_m173 144 = true := by decide +kernel
set_option maxRecDepth 100000 in
theorem rf_k174 : rf_chkT rf_ms rf_m174 181 = true := by decide +kernel
set_option maxRecDepth 100000 in
theorem rf_k175 : rf_chkT rf_ms rf_m175 65 = true := by decide +kernel
set_option maxRecDepth 100000 in
theorem rf_k176 : rf_chkT rf_ms rf_m176 66 = true := by decide +kernel
set_option maxRecDepth 100000 in
theorem rf_k177 : rf_chkT rf_ms rf_m177 60 = true := by decide +kernel
set_option maxRecDepth 100000 in
theorem rf_k178 : rf_chkT rf_ms rf_m178 161 = true := by decide +kernel
set_option maxRecDepth 100000 in
theorem rf_k179 : rf_chkT rf_ms rf_m179 9 = true := by decide +kernel
set_option maxRecDepth 100000 in
theorem rf_k180 : rf_chkT rf_ms rf_m180 29 = true := by decide +kernel
set_option maxRecDepth 100000 in
theorem rf_k181 : rf_chkT rf_ms rf_m181 9 = true := by decide +kernel
set_option maxRecDepth 100000 in
theorem rf_k182 : rf_chkT rf_ms rf_m182 28 = true := by decide +kernel
set_option maxRecDepth 100000 in
theorem rf_k183 : rf_chkT rf_ms rf_m183 21 = true := by decide +kernel
set_option maxRecDepth 100000 in
theorem rf_k184 : rf_chkT rf_ms rf_m184 36 = true := by decide +kernel
set_option maxRecDepth 100000 in
theorem rf_k185 : rf_chkT rf_ms rf_m185 88 = true := by decide +kernel
set_option maxRecDepth 100000 in
theorem rf_k186 : rf_chkT rf_ms rf_m186 68 = true := by decide +kernel
set_option maxRecDepth 100000 in
theorem rf_k187 : rf_chkT rf_ms rf_m187 59 = true := by decide +kernel
set_option maxRecDepth 100000 in
theorem rf_k188 : rf_chkT rf_ms rf_m188 27 = true := by decide +kernel
set_option maxRecDepth 100000 in
theorem rf_k189 : rf_chkT rf_ms rf_m189 112 = true := by decide +kernel
set_option maxRecDepth 100000 in
theorem rf_k190 : rf_chkT rf_ms rf_m190 56 = true := by decide +kernel
set_option maxRecDepth 100000 in
theorem rf_k191 : rf_chkT rf_ms rf_m191 141 = true := by decide +kernel
set_option maxRecDepth 100000 in
theorem rf_k192 : rf_chkT rf_ms rf_m192 106 = true := by decide +kernel
set_option maxRecDepth 100000 in
theorem rf_k193 : rf_chkT rf_ms rf_m193 85 = true := by decide +kernel
set_option maxRecDepth 100000 in
theorem rf_k194 : rf_chkT rf_ms rf_m194 90 = true := by decide +kernel
set_option maxRecDepth 100000 in
theorem rf_k195 : rf_chkT rf_ms rf_m195 90 = true := by decide +kernel
set_option maxRecDepth 100000 in
theorem rf_k196 : rf_chkT rf_ms rf_m196 213 = true := by decide +kernel
set_option maxRecDepth 100000 in
theorem rf_k197 : rf_chkT rf_ms rf_m197 15 = true := by decide +kernel
set_option maxRecDepth 100000 in
theorem rf_k198 : rf_chkT rf_ms rf_m198 56 = true := by decide +kernel
set_option maxRecDepth 100000 in
theorem rf_k199 : rf_chkT rf_ms rf_m199 136 = true := by decide +kernel
set_option maxRecDepth 100000 in
theorem rf_k200 : rf_chkT rf_ms rf_m200 43 = true := by decide +kernel
set_option maxRecDepth 100000 in
theorem rf_k201 : rf_chkT rf_ms rf_m201 43 = true := by decide +kernel
set_option maxRecDepth 100000 in
theorem rf_k202 : rf_chkT rf_ms rf_m202 49 = true := by decide +kernel
set_option maxRecDepth 100000 in
theorem rf_k203 : rf_chkT rf_ms rf_m203 73 = true := by decide +kernel
set_option maxRecDepth 100000 in
theorem rf_k204 : rf_chkT rf_ms rf_m204 32 = true := by decide +kernel
set_option maxRecDepth 100000 in
theorem rf_k205 : rf_chkT rf_ms rf_m205 125 = true := by decide +kernel
set_option maxRecDepth 100000 in
theorem rf_k206 : rf_chkT rf_ms rf_m206 168 = true := by decide +kernel
set_option maxRecDepth 100000 in
theorem rf_k207 : rf_chkT rf_ms rf_m207 14 = true := by decide +kernel
set_option maxRecDepth 100000 in
theorem rf_k208 : rf_chkT rf_ms rf_m208 7 = true := by decide +kernel
set_option maxRecDepth 100000 in
theorem rf_k209 : rf_chkT rf_ms rf_m209 53 = true := by decide +kernel
set_option maxRecDepth 100000 in
theorem rf_k210 : rf_chkT rf_ms rf_m210 39 = true := by decide +kernel
set_option maxRecDepth 100000 in
theorem rf_k211 : rf_chkT rf_ms rf_m211 30 = true := by decide +kernel
set_option maxRecDepth 100000 in
theorem rf_k212 : rf_chkT rf_ms rf_m212 64 = true := by decide +kernel
set_option maxRecDepth 100000 in
theorem rf_k213 : rf_chkT rf_ms rf_m213 93 = true := by decide +kernel
set_option maxRecDepth 100000 in
theorem rf_k214 : rf_chkT rf_ms rf_m214 74 = true := by decide +kernel
set_option maxRecDepth 100000 in
theorem rf_k215 : rf_chkT rf_ms rf_m215 68 = true := by decide +kernel
set_option maxRecDepth 100000 in
theorem rf_k216 : rf_chkT rf_ms rf_m216 102 = true := by decide +kernel
set_option maxRecDepth 100000 in
theorem rf_k217 : rf_chkT rf_ms rf_m217 29 = true := by decide +kernel
set_option maxRecDepth 100000 in
theorem rf_k218 : rf_chkT rf_ms rf_m218 10 = true := by decide +kernel
set_option maxRecDepth 100000 in
theorem rf_k219 : rf_chkT rf_ms rf_m219 38 = true := by decide +kernel
set_option maxRecDepth 100000 in
theorem rf_k220 : rf_chkT rf_ms rf_m220 85 = true := by decide +kernel
set_option maxRecDepth 100000 in
theorem rf_k221 : rf_chkT rf_ms rf_m221 56 = true := by decide +kernel
set_option maxRecDepth 100000 in
theorem rf_k222 : rf_chkT rf_ms rf_m222 55 = true := by decide +kernel
set_option maxRecDepth 100000 in
theorem rf_k223 : rf_chkT rf_ms rf_m223 49 = true := by decide +kernel
set_option maxRecDepth 100000 in
theorem rf_k224 : rf_chkT rf_ms rf_m224 27 = true := by decide +kernel
set_option maxRecDepth 100000 in
theorem rf_k225 : rf_chkT rf_ms rf_m225 188 = true := by decide +kernel
set_option maxRecDepth 100000 in
theorem rf_k226 : rf_chkT rf_ms rf_m226 96 = true := by decide +kernel
set_option maxRecDepth 100000 in
theorem rf_k227 : rf_chkT rf_ms rf_m227 96 = true := by decide +kernel
set_option maxRecDepth 100000 in
theorem rf_k228 : rf_chkT rf_ms rf_m228 53 = true := by decide +kernel
set_option maxRecDepth 100000 in
theorem rf_k229 : rf_chkT rf_ms rf_m229 21 = true := by decide +kernel
def rf_ok (mj : rf_M) : Prop := rf_chkW mj = true ∧ ∃ n, rf_chkT rf_ms mj n = true ∧ ∀ pc E, mj.2.2 pc = some E → pc < n
set_option maxRecDepth 100000 in
theorem rf_o0 : rf_ok rf_m0 := ⟨by decide +kernel, _, rf_k0, fun _ _ h => rf_gd_lt h⟩
set_option maxRecDepth 100000 in
theorem rf_o1 : rf_ok rf_m1 := ⟨by decide +kernel, _, rf_k1, fun _ _ h => rf_gd_lt h⟩
set_option maxRecDepth 100000 in
theorem rf_o2 : rf_ok rf_m2 := ⟨by decide +kernel, _, rf_k2, fun _ _ h => rf_gd_lt h⟩
set_option maxRecDepth 100000 in
theorem rf_o3 : rf_ok rf_m3 := ⟨by decide +kernel, _, rf_k3, fun _ _ h => rf_gd_lt h⟩
set_option maxRecDepth 100000 in
theorem rf_o4 : rf_ok rf_m4 := ⟨by decide +kernel, _, rf_k4, fun _ _ h => rf_gd_lt h⟩
set_option maxRecDepth 100000 in
theorem rf_o5 : rf_ok rf_m5 := ⟨by decide +kernel, _, rf_k5, fun _ _ h => rf_gd_lt h⟩
set_option maxRecDepth 100000 in
theorem rf_o6 : rf_ok rf_m6 := ⟨by decide +kernel, _, rf_k6, fun _ _ h => rf_gd_lt h⟩
set_option maxRecDepth 100000 in
theorem rf_o7 : rf_ok rf_m7 := ⟨by decide +kernel, _, rf_k7, fun _ _ h => rf_gd_lt h⟩
set_option maxRecDepth 100000 in
theorem rf_o8 : rf_ok rf_m8 := ⟨by decide +kernel, _, rf_k8, fun _ _ h => rf_gd_lt h⟩
set_option maxRecDepth 100000 in
theorem rf_o9 : rf_ok rf_m9 := ⟨by decide +kernel, _, rf_k9, fun _ _ h => rf_gd_lt h⟩
set_option maxRecDepth 100000 in
theorem rf_o10 : rf_ok rf_m10 := ⟨by decide +kernel, _, rf_k10, fun _ _ h => rf_gd_lt h⟩
set_option maxRecDepth 100000 in
theorem rf_o11 : rf_ok rf_m11 := ⟨by decide +kernel, _, rf_k11, fun _ _ h => rf_gd_lt h⟩
set_option maxRecDepth 100000 in
theorem rf_o12 : rf_ok rf_m12 := ⟨by decide +kernel, _, rf_k12, fun _ _ h => rf_gd_lt h⟩
set_option maxRecDepth 100000 in
theorem rf_o13 : rf_ok rf_m13 := ⟨by decide +kernel, _, rf_k13, fun _ _ h => rf_gd_lt h⟩
set_option maxRecDepth 100000 in
theorem rf_o14 : rf_ok rf_m14 := ⟨by decide +kernel, _, rf_k14, fun _ _ h => rf_gd_lt h⟩
set_option maxRecDepth 100000 in
theorem rf_o15 : rf_ok rf_m15 := ⟨by decide +kernel, _, rf_k15, fun _ _ h => rf_gd_lt h⟩
set_option maxRecDepth 100000 in
theorem rf_o16 : rf_ok rf_m16 := ⟨by decide +kernel, _, rf_k16, fun _ _ h => rf_gd_lt h⟩
set_option maxRecDepth 100000 in
theorem rf_o17 : rf_ok rf_m17 := ⟨by decide +kernel, _, rf_k17, fun _ _ h => rf_gd_lt h⟩
set_option maxRecDepth 100000 in
theorem rf_o18 : rf_ok rf_m18 := ⟨by decide +kernel, _, rf_k18, fun _ _ h => rf_gd_lt h⟩
set_option maxRecDepth 100000 in
theorem rf_o19 : rf_ok rf_m19 := ⟨by decide +kernel, _, rf_k19, fun _ _ h => rf_gd_lt h⟩
theorem rf_oks_0 : ∀ mj ∈ rf_ms_0, rf_ok mj := List.forall_mem_cons.mpr ⟨rf_o0, List.forall_mem_cons.mpr ⟨rf_o1, List.forall_mem_cons.mpr ⟨rf_o2, List.forall_mem_cons.mpr ⟨rf_o3, List.forall_mem_cons.mpr ⟨rf_o4, List.forall_mem_cons.mpr ⟨rf_o5, List.forall_mem_cons.mpr ⟨rf_o6, List.forall_mem_cons.mpr ⟨rf_o7, List.forall_mem_cons.mpr ⟨rf_o8, List.forall_mem_cons.mpr ⟨rf_o9, List.forall_mem_cons.mpr ⟨rf_o10, List.forall_mem_cons.mpr ⟨rf_o11, List.forall_mem_cons.mpr ⟨rf_o12, List.forall_mem_cons.mpr ⟨rf_o13, List.forall_mem_cons.mpr ⟨rf_o14, List.forall_mem_cons.mpr ⟨rf_o15, List.forall_mem_cons.mpr ⟨rf_o16, List.forall_mem_cons.mpr ⟨rf_o17, List.forall_mem_cons.mpr ⟨rf_o18, List.forall_mem_cons.mpr ⟨rf_o19, List.forall_mem_nil _⟩⟩⟩⟩⟩⟩⟩⟩⟩⟩⟩⟩⟩⟩⟩⟩⟩⟩⟩⟩
set_option maxRecDepth 100000 in
theorem rf_o20 : rf_ok rf_m20 := ⟨by decide +kernel, _, rf_k20, fun _ _ h => rf_gd_lt h⟩
set_option maxRecDepth 100000 in
theorem rf_o21 : rf_ok rf_m21 := ⟨by decide +kernel, _, rf_k21, fun _ _ h => rf_gd_lt h⟩
set_option maxRecDepth 100000 in
theorem rf_o22 : rf_ok rf_m22 := ⟨by decide +kernel, _, rf_k22, fun _ _ h => rf_gd_lt h⟩
set_option maxRecDepth 100000 in
theorem rf_o23 : rf_ok rf_m23 := ⟨by decide +kernel, _, rf_k23, fun _ _ h => rf_gd_lt h⟩
set_option maxRecDepth 100000 in
theorem rf_o24 : rf_ok rf_m24 := ⟨by decide +kernel, _, rf_k24, fun _ _ h => rf_gd_lt h⟩
set_option maxRecDepth 100000 in
theorem rf_o25 : rf_ok rf_m25 := ⟨by decide +kernel, _, rf_k25, fun _ _ h => rf_gd_lt h⟩
set_option maxRecDepth 100000 in
theorem rf_o26 : rf_ok rf_m26 := ⟨by decide +kernel, _, rf_k26, fun _ _ h => rf_gd_lt h⟩
set_option maxRecDepth 100000 in
theorem rf_o27 : rf_ok rf_m27 := ⟨by decide +kernel, _, rf_k27, fun _ _ h => rf_gd_lt h⟩
set_option maxRecDepth 100000 in
theorem rf_o28 : rf_ok rf_m28 := ⟨by decide +kernel, _, rf_k28, fun _ _ h => rf_gd_lt h⟩
set_option maxRecDepth 100000 in
theorem rf_o29 : rf_ok rf_m29 := ⟨by decide +kernel, _, rf_k29, fun _ _ h => rf_gd_lt h⟩
set_option maxRecDepth 100000 in
theorem rf_o30 : rf_ok rf_m30 := ⟨by decide +kernel, _, rf_k30, fun _ _ h => rf_gd_lt h⟩
set_option maxRecDepth 100000 in
theorem rf_o31 : rf_ok rf_m31 := ⟨by decide +kernel, _, rf_k31, fun _ _ h => rf_gd_lt h⟩
set_option maxRecDepth 100000 in
theorem rf_o32 : rf_ok rf_m32 := ⟨by decide +kernel, _, rf_k32, fun _ _ h => rf_gd_lt h⟩
set_option maxRecDepth 100000 in
theorem rf_o33 : rf_ok rf_m33 := ⟨by decide +kernel, _, rf_k33, fun _ _ h => rf_gd_lt h⟩
set_option maxRecDepth 100000 in
theorem rf_o34 : rf_ok rf_m34 := ⟨by decide +kernel, _, rf_k34, fun _ _ h => rf_gd_lt h⟩
set_option maxRecDepth 100000 in
theorem rf_o35 : rf_ok rf_m35 := ⟨by decide +kernel, _, rf_k35, fun _ _ h => rf_gd_lt h⟩
set_option maxRecDepth 100000 in
theorem rf_o36 : rf_ok rf_m36 := ⟨by decide +kernel, _, rf_k36, fun _ _ h => rf_gd_lt h⟩
set_option maxRecDepth 100000 in
theorem rf_o37 : rf_ok rf_m37 := ⟨by decide +kernel, _, rf_k37, fun _ _ h => rf_gd_lt h⟩
set_option maxRecDepth 100000 in
theorem rf_o38 : rf_ok rf_m38 := ⟨by decide +kernel, _, rf_k38, fun _ _ h => rf_gd_lt h⟩
set_option maxRecDepth 100000 in
theorem rf_o39 : rf_ok rf_m39 := ⟨by decide +kernel, _, rf_k39, fun _ _ h => rf_gd_lt h⟩
theorem rf_oks_1 : ∀ mj ∈ rf_ms_1, rf_ok mj := List.forall_mem_cons.mpr ⟨rf_o20, List.forall_mem_cons.mpr ⟨rf_o21, List.forall_mem_cons.mpr ⟨rf_o22, List.forall_mem_cons.mpr ⟨rf_o23, List.forall_mem_cons.mpr ⟨rf_o24, List.forall_mem_cons.mpr ⟨rf_o25, List.forall_mem_cons.mpr ⟨rf_o26, List.forall_mem_cons.mpr ⟨rf_o27, List.forall_mem_cons.mpr ⟨rf_o28, List.forall_mem_cons.mpr ⟨rf_o29, List.forall_mem_cons.mpr ⟨rf_o30, List.forall_mem_cons.mpr ⟨rf_o31, List.forall_mem_cons.mpr ⟨rf_o32, List.forall_mem_cons.mpr ⟨rf_o33, List.forall_mem_cons.mpr ⟨rf_o34, List.forall_mem_cons.mpr ⟨rf_o35, List.forall_mem_cons.mpr ⟨rf_o36, List.forall_mem_cons.mpr ⟨rf_o37, List.forall_mem_cons.mpr ⟨rf_o38, List.forall_mem_cons.mpr ⟨rf_o39, List.forall_mem_nil _⟩⟩⟩⟩⟩⟩⟩⟩⟩⟩⟩⟩⟩⟩⟩⟩⟩⟩⟩⟩
set_option maxRecDepth 100000 in
theorem rf_o40 : rf_ok rf_m40 := ⟨by decide +kernel, _, rf_k40, fun _ _ h => rf_gd_lt h⟩
set_option maxRecDepth 100000 in
theorem rf_o41 : rf_ok rf_m41 := ⟨by decide +kernel, _, rf_k41, fun _ _ h => rf_gd_lt h⟩
set_option maxRecDepth 100000 in
theorem rf_o42 : rf_ok rf_m42 := ⟨by decide +kernel, _, rf_k42, fun _ _ h => rf_gd_lt h⟩
set_option maxRecDepth 100000 in
theorem rf_o43 : rf_ok rf_m43 := ⟨by decide +kernel, _, rf_k43, fun _ _ h => rf_gd_lt h⟩
set_option maxRecDepth 100000 in
theorem rf_o44 : rf_ok rf_m44 := ⟨by decide +kernel, _, rf_k44, fun _ _ h => rf_gd_lt h⟩
set_option maxRecDepth 100000 in
theorem rf_o45 : rf_ok rf_m45 := ⟨by decide +kernel, _, rf_k45, fun _ _ h => rf_gd_lt h⟩
set_option maxRecDepth 100000 in
theorem rf_o46 : rf_ok rf_m46 := ⟨by decide +kernel, _, rf_k46, fun _ _ h => rf_gd_lt h⟩
set_option maxRecDepth 100000 in
theorem rf_o47 : rf_ok rf_m47 := ⟨by decide +kernel, _, rf_k47, fun _ _ h => rf_gd_lt h⟩
set_option maxRecDepth 100000 in
theorem rf_o48 : rf_ok rf_m48 := ⟨by decide +kernel, _, rf_k48, fun _ _ h => rf_gd_lt h⟩
set_option maxRecDepth 100000 in
theorem rf_o49 : rf_ok rf_m49 := ⟨by decide +kernel, _, rf_k49, fun _ _ h => rf_gd_lt h⟩
set_option maxRecDepth 100000 in
theorem rf_o50 : rf_ok rf_m50 := ⟨by decide +kernel, _, rf_k50, fun _ _ h => rf_gd_lt h⟩
set_option maxRecDepth 100000 in
theorem rf_o51 : rf_ok rf_m51 := ⟨by decide +kernel, _, rf_k51, fun _ _ h => rf_gd_lt h⟩
set_option maxRecDepth 100000 in
theorem rf_o52 : rf_ok rf_m52 := ⟨by decide +kernel, _, rf_k52, fun _ _ h => rf_gd_lt h⟩
set_option maxRecDepth 100000 in
theorem rf_o53 : rf_ok rf_m53 := ⟨by decide +kernel, _, rf_k53, fun _ _ h => rf_gd_lt h⟩
set_option maxRecDepth 100000 in
theorem rf_o54 : rf_ok rf_m54 := ⟨by decide +kernel, _, rf_k54, fun _ _ h => rf_gd_lt h⟩
set_option maxRecDepth 100000 in
theorem rf_o55 : rf_ok rf_m55 := ⟨by decide +kernel, _, rf_k55, fun _ _ h => rf_gd_lt h⟩
set_option maxRecDepth 100000 in
theorem rf_o56 : rf_ok rf_m56 := ⟨by decide +kernel, _, rf_k56, fun _ _ h => rf_gd_lt h⟩
set_option maxRecDepth 100000 in
theorem rf_o57 : rf_ok rf_m57 := ⟨by decide +kernel, _, rf_k57, fun _ _ h => rf_gd_lt h⟩
set_option maxRecDepth 100000 in
theorem rf_o58 : rf_ok rf_m58 := ⟨by decide +kernel, _, rf_k58, fun _ _ h => rf_gd_lt h⟩
set_option maxRecDepth 100000 in
theorem rf_o59 : rf_ok rf_m59 := ⟨by decide +kernel, _, rf_k59, fun _ _ h => rf_gd_lt h⟩
theorem rf_oks_2 : ∀ mj ∈ rf_ms_2, rf_ok mj := List.forall_mem_cons.mpr ⟨rf_o40, List.forall_mem_cons.mpr ⟨rf_o41, List.forall_mem_cons.mpr ⟨rf_o42, List.forall_mem_cons.mpr ⟨rf_o43, List.forall_mem_cons.mpr ⟨rf_o44, List.forall_mem_cons.mpr ⟨rf_o45, List.forall_mem_cons.mpr ⟨rf_o46, List.forall_mem_cons.mpr ⟨rf_o47, List.forall_mem_cons.mpr ⟨rf_o48, List.forall_mem_cons.mpr ⟨rf_o49, List.forall_mem_cons.mpr ⟨rf_o50, List.forall_mem_cons.mpr ⟨rf_o51, List.forall_mem_cons.mpr ⟨rf_o52, List.forall_mem_cons.mpr ⟨rf_o53, List.forall_mem_cons.mpr ⟨rf_o54, List.forall_mem_cons.mpr ⟨rf_o55, List.forall_mem_cons.mpr ⟨rf_o56, List.forall_mem_cons.mpr ⟨rf_o57, List.forall_mem_cons.mpr ⟨rf_o58, List.forall_mem_cons.mpr ⟨rf_o59, List.forall_mem_nil _⟩⟩⟩⟩⟩⟩⟩⟩⟩⟩⟩⟩⟩⟩⟩⟩⟩⟩⟩⟩
set_option maxRecDepth 100000 in
theorem rf_o60 : rf_ok rf_m60 := ⟨by decide +kernel, _, rf_k60, fun _ _ h => rf_gd_lt h⟩
set_option maxRecDepth 100000 in
theorem rf_o61 : rf_ok rf_m61 := ⟨by decide +kernel, _, rf_k61, fun _ _ h => rf_gd_lt h⟩
set_option maxRecDepth 100000 in
theorem rf_o62 : rf_ok rf_m62 := ⟨by decide +kernel, _, rf_k62, fun _ _ h => rf_gd_lt h⟩
set_option maxRecDepth 100000 in
theorem rf_o63 : rf_ok rf_m63 := ⟨by decide +kernel, _, rf_k63, fun _ _ h => rf_gd_lt h⟩
set_option maxRecDepth 100000 in
theorem rf_o64 : rf_ok rf_m64 := ⟨by decide +kernel, _, rf_k64, fun _ _ h => rf_gd_lt h⟩
set_option maxRecDepth 100000 in
theorem rf_o65 : rf_ok rf_m65 := ⟨by decide +kernel, _, rf_k65, fun _ _ h => rf_gd_lt h⟩
set_option maxRecDepth 100000 in
theorem rf_o66 : rf_ok rf_m66 := ⟨by decide +kernel, _, rf_k66, fun _ _ h => rf_gd_lt h⟩
set_option maxRecDepth 100000 in
theorem rf_o67 : rf_ok rf_m67 := ⟨by decide +kernel, _, rf_k67, fun _ _ h => rf_gd_lt h⟩
set_option maxRecDepth 100000 in
theorem rf_o68 : rf_ok rf_m68 := ⟨by decide +kernel, _, rf_k68, fun _ _ h => rf_gd_lt h⟩
set_option maxRecDepth 100000 in
theorem rf_o69 : rf_ok rf_m69 := ⟨by decide +kernel, _, rf_k69, fun _ _ h => rf_gd_lt h⟩
set_option maxRecDepth 100000 in
theorem rf_o70 : rf_ok rf_m70 := ⟨by decide +kernel, _, rf_k70, fun _ _ h => rf_gd_lt h⟩
set_option maxRecDepth 100000 in
theorem rf_o71 : rf_ok rf_m71 := ⟨by decide +kernel, _, rf_k71, fun _ _ h => rf_gd_lt h⟩
set_option maxRecDepth 100000 in
theorem rf_o72 : rf_ok rf_m72 := ⟨by decide +kernel, _, rf_k72, fun _ _ h => rf_gd_lt h⟩
set_option maxRecDepth 100000 in
theorem rf_o73 : rf_ok rf_m73 := ⟨by decide +kernel, _, rf_k73, fun _ _ h => rf_gd_lt h⟩
set_option maxRecDepth 100000 in
theorem rf_o74 : rf_ok rf_m74 := ⟨by decide +kernel, _, rf_k74, fun _ _ h => rf_gd_lt h⟩
set_option maxRecDepth 100000 in
theorem rf_o75 : rf_ok rf_m75 := ⟨by decide +kernel, _, rf_k75, fun _ _ h => rf_gd_lt h⟩
set_option maxRecDepth 100000 in
theorem rf_o76 : rf_ok rf_m76 := ⟨by decide +kernel, _, rf_k76, fun _ _ h => rf_gd_lt h⟩
set_option maxRecDepth 100000 in
theorem rf_o77 : rf_ok rf_m77 := ⟨by decide +kernel, _, rf_k77, fun _ _ h => rf_gd_lt h⟩
set_option maxRecDepth 100000 in
theorem rf_o78 : rf_ok rf_m78 := ⟨by decide +kernel, _, rf_k78, fun _ _ h => rf_gd_lt h⟩
set_option maxRecDepth 100000 in
theorem rf_o79 : rf_ok rf_m79 := ⟨by decide +kernel, _, rf_k79, fun _ _ h => rf_gd_lt h⟩
theorem rf_oks_3 : ∀ mj ∈ rf_ms_3, rf_ok mj := List.forall_mem_cons.mpr ⟨rf_o60, List.forall_mem_cons.mpr ⟨rf_o61, List.forall_mem_cons.mpr ⟨rf_o62, List.forall_mem_cons.mpr ⟨rf_o63, List.forall_mem_cons.mpr ⟨rf_o64, List.forall_mem_cons.mpr ⟨rf_o65, List.forall_mem_cons.mpr ⟨rf_o66, List.forall_mem_cons.mpr ⟨rf_o67, List.forall_mem_cons.mpr ⟨rf_o68, List.forall_mem_cons.mpr ⟨rf_o69, List.forall_mem_cons.mpr ⟨rf_o70, List.forall_mem_cons.mpr ⟨rf_o71, List.forall_mem_cons.mpr ⟨rf_o72, List.forall_mem_cons.mpr ⟨rf_o73, List.forall_mem_cons.mpr ⟨rf_o74, List.forall_mem_cons.mpr ⟨rf_o75, List.forall_mem_cons.mpr ⟨rf_o76, List.forall_mem_cons.mpr ⟨rf_o77, List.forall_mem_cons.mpr ⟨rf_o78, List.forall_mem_cons.mpr ⟨rf_o79, List.forall_mem_nil _⟩⟩⟩⟩⟩⟩⟩⟩⟩⟩⟩⟩⟩⟩⟩⟩⟩⟩⟩⟩
set_option maxRecDepth 100000 in
theorem rf_o80 : rf_ok rf_m80 := ⟨by decide +kernel, _, rf_k80, fun _ _ h => rf_gd_lt h⟩
set_option maxRecDepth 100000 in
theorem rf_o81 : rf_ok rf_m81 := ⟨by decide +kernel, _, rf_k81, fun _ _ h => rf_gd_lt h⟩
set_option maxRecDepth 100000 in
theorem rf_o82 : rf_ok rf_m82 := ⟨by decide +kernel, _, rf_k82, fun _ _ h => rf_gd_lt h⟩
set_option maxRecDepth 100000 in
theorem rf_o83 : rf_ok rf_m83 := ⟨by decide +kernel, _, rf_k83, fun _ _ h => rf_gd_lt h⟩
set_option maxRecDepth 100000 in
theorem rf_o84 : rf_ok rf_m84 := ⟨by decide +kernel, _, rf_k84, fun _ _ h => rf_gd_lt h⟩
set_option maxRecDepth 100000 in
theorem rf_o85 : rf_ok rf_m85 := ⟨by decide +kernel, _, rf_k85, fun _ _ h => rf_gd_lt h⟩
set_option maxRecDepth 100000 in
theorem rf_o86 : rf_ok rf_m86 := ⟨by decide +kernel, _, rf_k86, fun _ _ h => rf_gd_lt h⟩
set_option maxRecDepth 100000 in
theorem rf_o87 : rf_ok rf_m87 := ⟨by decide +kernel, _, rf_k87, fun _ _ h => rf_gd_lt h⟩
set_option maxRecDepth 100000 in
theorem rf_o88 : rf_ok rf_m88 := ⟨by decide +kernel, _, rf_k88, fun _ _ h => rf_gd_lt h⟩
set_option maxRecDepth 100000 in
theorem rf_o89 : rf_ok rf_m89 := ⟨by decide +kernel, _, rf_k89, fun _ _ h => rf_gd_lt h⟩
set_option maxRecDepth 100000 in
theorem rf_o90 : rf_ok rf_m90 := ⟨by decide +kernel, _, rf_k90, fun _ _ h => rf_gd_lt h⟩
set_option maxRecDepth 100000 in
theorem rf_o91 : rf_ok rf_m91 := ⟨by decide +kernel, _, rf_k91, fun _ _ h => rf_gd_lt h⟩
set_option maxRecDepth 100000 in
theorem rf_o92 : rf_ok rf_m92 := ⟨by decide +kernel, _, rf_k92, fun _ _ h => rf_gd_lt h⟩
set_option maxRecDepth 100000 in
theorem rf_o93 : rf_ok rf_m93 := ⟨by decide +kernel, _, rf_k93, fun _ _ h => rf_gd_lt h⟩
set_option maxRecDepth 100000 in
theorem rf_o94 : rf_ok rf_m94 := ⟨by decide +kernel, _, rf_k94, fun _ _ h => rf_gd_lt h⟩
set_option maxRecDepth 100000 in
theorem rf_o95 : rf_ok rf_m95 := ⟨by decide +kernel, _, rf_k95, fun _ _ h => rf_gd_lt h⟩
set_option maxRecDepth 100000 in
theorem rf_o96 : rf_ok rf_m96 := ⟨by decide +kernel, _, rf_k96, fun _ _ h => rf_gd_lt h⟩
set_option maxRecDepth 100000 in
theorem rf_o97 : rf_ok rf_m97 := ⟨by decide +kernel, _, rf_k97, fun _ _ h => rf_gd_lt h⟩
set_option maxRecDepth 100000 in
theorem rf_o98 : rf_ok rf_m98 := ⟨by decide +kernel, _, rf_k98, fun _ _ h => rf_gd_lt h⟩
set_option maxRecDepth 100000 in
theorem rf_o99 : rf_ok rf_m99 := ⟨by decide +kernel, _, rf_k99, fun _ _ h => rf_gd_lt h⟩
theorem rf_oks_4 : ∀ mj ∈ rf_ms_4, rf_ok mj := List.forall_mem_cons.mpr ⟨rf_o80, List.forall_mem_cons.mpr ⟨rf_o81, List.forall_mem_cons.mpr ⟨rf_o82, List.forall_mem_cons.mpr ⟨rf_o83, List.forall_mem_cons.mpr ⟨rf_o84, List.forall_mem_cons.mpr ⟨rf_o85, List.forall_mem_cons.mpr ⟨rf_o86, List.forall_mem_cons.mpr ⟨rf_o87, List.forall_mem_cons.mpr ⟨rf_o88, List.forall_mem_cons.mpr ⟨rf_o89, List.forall_mem_cons.mpr ⟨rf_o90, List.forall_mem_cons.mpr ⟨rf_o91, List.forall_mem_cons.mpr ⟨rf_o92, List.forall_mem_cons.mpr ⟨rf_o93, List.forall_mem_cons.mpr ⟨rf_o94, List.forall_mem_cons.mpr ⟨rf_o95, List.forall_mem_cons.mpr ⟨rf_o96, List.forall_mem_cons.mpr ⟨rf_o97, List.forall_mem_cons.mpr ⟨rf_o98, List.forall_mem_cons.mpr ⟨rf_o99, List.forall_mem_nil _⟩⟩⟩⟩⟩⟩⟩⟩⟩⟩⟩⟩⟩⟩⟩⟩⟩⟩⟩⟩
set_option maxRecDepth 100000 in
theorem rf_o100 : rf_ok rf_m100 := ⟨by decide +kernel, _, rf_k100, fun _ _ h => rf_gd_lt h⟩
set_option maxRecDepth 100000 in
theorem rf_o101 : rf_ok rf_m101 := ⟨by decide +kernel, _, rf_k101, fun _ _ h => rf_gd_lt h⟩
set_option maxRecDepth 100000 in
theorem rf_o102 : rf_ok rf_m102 := ⟨by decide +kernel, _, rf_k102, fun _ _ h => rf_gd_lt h⟩
set_option maxRecDepth 100000 in
theorem rf_o103 : rf_ok rf_m103 := ⟨by decide +kernel, _, rf_k103, fun _ _ h => rf_gd_lt h⟩
set_option maxRecDepth 100000 in
theorem rf_o104 : rf_ok rf_m104 := ⟨by decide +kernel, _, rf_k104, fun _ _ h => rf_gd_lt h⟩
set_option maxRecDepth 100000 in
theorem rf_o105 : rf_ok rf_m105 := ⟨by decide +kernel, _, rf_k105, fun _ _ h => rf_gd_lt h⟩
set_option maxRecDepth 100000 in
theorem rf_o106 : rf_ok rf_m106 := ⟨by decide +kernel, _, rf_k106, fun _ _ h => rf_gd_lt h⟩
set_option maxRecDepth 100000 in
theorem rf_o107 : rf_ok rf_m107 := ⟨by decide +kernel, _, rf_k107, fun _ _ h => rf_gd_lt h⟩
set_option maxRecDepth 100000 in
theorem rf_o108 : rf_ok rf_m108 := ⟨by decide +kernel, _, rf_k108, fun _ _ h => rf_gd_lt h⟩
set_option maxRecDepth 100000 in
theorem rf_o109 : rf_ok rf_m109 := ⟨by decide +kernel, _, rf_k109, fun _ _ h => rf_gd_lt h⟩
set_option maxRecDepth 100000 in
theorem rf_o110 : rf_ok rf_m110 := ⟨by decide +kernel, _, rf_k110, fun _ _ h => rf_gd_lt h⟩
set_option maxRecDepth 100000 in
theorem rf_o111 : rf_ok rf_m111 := ⟨by decide +kernel, _, rf_k111, fun _ _ h => rf_gd_lt h⟩
set_option maxRecDepth 100000 in
theorem rf_o112 : rf_ok rf_m112 := ⟨by decide +kernel, _, rf_k112, fun _ _ h => rf_gd_lt h⟩
set_option maxRecDepth 100000 in
theorem rf_o113 : rf_ok rf_m113 := ⟨by decide +kernel, _, rf_k113, fun _ _ h => rf_gd_lt h⟩
set_option maxRecDepth 100000 in
theorem rf_o114 : rf_ok rf_m114 := ⟨by decide +kernel, _, rf_k114, fun _ _ h => rf_gd_lt h⟩
set_option maxRecDepth 100000 in
theorem rf_o115 : rf_ok rf_m115 := ⟨by decide +kernel, _, rf_k115, fun _ _ h => rf_gd_lt h⟩
set_option maxRecDepth 100000 in
theorem rf_o116 : rf_ok rf_m116 := ⟨by decide +kernel, _, rf_k116, fun _ _ h => rf_gd_lt h⟩
set_option maxRecDepth 100000 in
theorem rf_o117 : rf_ok rf_m117 := ⟨by decide +kernel, _, rf_k117, fun _ _ h => rf_gd_lt h⟩
set_option maxRecDepth 100000 in
theorem rf_o118 : rf_ok rf_m118 := ⟨by decide +kernel, _, rf_k118, fun _ _ h => rf_gd_lt h⟩
set_option maxRecDepth 100000 in
theorem rf_o119 : rf_ok rf_m119 := ⟨by decide +kernel, _, rf_k119, fun _ _ h => rf_gd_lt h⟩
theorem rf_oks_5 : ∀ mj ∈ rf_ms_5, rf_ok mj := List.forall_mem_cons.mpr ⟨rf_o100, List.forall_mem_cons.mpr ⟨rf_o101, List.forall_mem_cons.mpr ⟨rf_o102, List.forall_mem_cons.mpr ⟨rf_o103, List.forall_mem_cons.mpr ⟨rf_o104, List.forall_mem_cons.mpr ⟨rf_o105, List.forall_mem_cons.mpr ⟨rf_o106, List.forall_mem_cons.mpr ⟨rf_o107, List.forall_mem_cons.mpr ⟨rf_o108, List.forall_mem_cons.mpr ⟨rf_o109, List.forall_mem_cons.mpr ⟨rf_o110, List.forall_mem_cons.mpr ⟨rf_o111, List.forall_mem_cons.mpr ⟨rf_o112, List.forall_mem_cons.mpr ⟨rf_o113, List.forall_mem_cons.mpr ⟨rf_o114, List.forall_mem_cons.mpr ⟨rf_o115, List.forall_mem_cons.mpr ⟨rf_o116, List.forall_mem_cons.mpr ⟨rf_o117, List.forall_mem_cons.mpr ⟨rf_o118, List.forall_mem_cons.mpr ⟨rf_o119, List.forall_mem_nil _⟩⟩⟩⟩⟩⟩⟩⟩⟩⟩⟩⟩⟩⟩⟩⟩⟩⟩⟩⟩
set_option maxRecDepth 100000 in
theorem rf_o120 : rf_ok rf_m120 := ⟨by decide +kernel, _, rf_k120, fun _ _ h => rf_gd_lt h⟩
set_option maxRecDepth 100000 in
theorem rf_o121 : rf_ok rf_m121 := ⟨by decide +kernel, _, rf_k121, fun _ _ h => rf_gd_lt h⟩
set_option maxRecDepth 100000 in
theorem rf_o122 : rf_ok rf_m122 := ⟨by decide +kernel, _, rf_k122, fun _ _ h => rf_gd_lt h⟩
set_option maxRecDepth 100000 in
theorem rf_o123 : rf_ok rf_m123 := ⟨by decide +kernel, _, rf_k123, fun _ _ h => rf_gd_lt h⟩
set_option maxRecDepth 100000 in
theorem rf_o124 : rf_ok rf_m124 := ⟨by decide +kernel, _, rf_k124, fun _ _ h => rf_gd_lt h⟩
set_option maxRecDepth 100000 in
theorem rf_o125 : rf_ok rf_m125 := ⟨by decide +kernel, _, rf_k125, fun _ _ h => rf_gd_lt h⟩
set_option maxRecDepth 100000 in
theorem rf_o126 : rf_ok rf_m126 := ⟨by decide +kernel, _, rf_k126, fun _ _ h => rf_gd_lt h⟩
set_option maxRecDepth 100000 in
theorem rf_o127 : rf_ok rf_m127 := ⟨by decide +kernel, _, rf_k127, fun _ _ h => rf_gd_lt h⟩
set_option maxRecDepth 100000 in
theorem rf_o128 : rf_ok rf_m128 := ⟨by decide +kernel, _, rf_k128, fun _ _ h => rf_gd_lt h⟩
set_option maxRecDepth 100000 in
theorem rf_o129 : rf_ok rf_m129 := ⟨by decide +kernel, _, rf_k129, fun _ _ h => rf_gd_lt h⟩
set_option maxRecDepth 100000 in
theorem rf_o130 : rf_ok rf_m130 := ⟨by decide +kernel, _, rf_k130, fun _ _ h => rf_gd_lt h⟩
set_option maxRecDepth 100000 in
theorem rf_o131 : rf_ok rf_m131 := ⟨by decide +kernel, _, rf_k131, fun _ _ h => rf_gd_lt h⟩
set_option maxRecDepth 100000 in
theorem rf_o132 : rf_ok rf_m132 := ⟨by decide +kernel, _, rf_k132, fun _ _ h => rf_gd_lt h⟩
set_option maxRecDepth 100000 in
theorem rf_o133 : rf_ok rf_m133 := ⟨by decide +kernel, _, rf_k133, fun _ _ h => rf_gd_lt h⟩
set_option maxRecDepth 100000 in
theorem rf_o134 : rf_ok rf_m134 := ⟨by decide +kernel, _, rf_k134, fun _ _ h => rf_gd_lt h⟩
set_option maxRecDepth 100000 in
theorem rf_o135 : rf_ok rf_m135 := ⟨by decide +kernel, _, rf_k135, fun _ _ h => rf_gd_lt h⟩
set_option maxRecDepth 100000 in
theorem rf_o136 : rf_ok rf_m136 := ⟨by decide +kernel, _, rf_k136, fun _ _ h => rf_gd_lt h⟩
set_option maxRecDepth 100000 in
theorem rf_o137 : rf_ok rf_m137 := ⟨by decide +kernel, _, rf_k137, fun _ _ h => rf_gd_lt h⟩
set_option maxRecDepth 100000 in
theorem rf_o138 : rf_ok rf_m138 := ⟨by decide +kernel, _, rf_k138, fun _ _ h => rf_gd_lt h⟩
set_option maxRecDepth 100000 in
theorem rf_o139 : rf_ok rf_m139 := ⟨by decide +kernel, _, rf_k139, fun _ _ h => rf_gd_lt h⟩
theorem rf_oks_6 : ∀ mj ∈ rf_ms_6, rf_ok mj := List.forall_mem_cons.mpr ⟨rf_o120, List.forall_mem_cons.mpr ⟨rf_o121, List.forall_mem_cons.mpr ⟨rf_o122, List.forall_mem_cons.mpr ⟨rf_o123, List.forall_mem_cons.mpr ⟨rf_o124, List.forall_mem_cons.mpr ⟨rf_o125, List.forall_mem_cons.mpr ⟨rf_o126, List.forall_mem_cons.mpr ⟨rf_o127, List.forall_mem_cons.mpr ⟨rf_o128, List.forall_mem_cons.mpr ⟨rf_o129, List.forall_mem_cons.mpr ⟨rf_o130, List.forall_mem_cons.mpr ⟨rf_o131, List.forall_mem_cons.mpr ⟨rf_o132, List.forall_mem_cons.mpr ⟨rf_o133, List.forall_mem_cons.mpr ⟨rf_o134, List.forall_mem_cons.mpr ⟨rf_o135, List.forall_mem_cons.mpr ⟨rf_o136, List.forall_mem_cons.mpr ⟨rf_o137, List.forall_mem_cons.mpr ⟨rf_o138, List.forall_mem_cons.mpr ⟨rf_o139, List.forall_mem_nil _⟩⟩⟩⟩⟩⟩⟩⟩⟩⟩⟩⟩⟩⟩⟩⟩⟩⟩⟩⟩
set_option maxRecDepth 100000 in
theorem rf_o140 : rf_ok rf_m140 := ⟨by decide +kernel, _, rf_k140, fun _ _ h => rf_gd_lt h⟩
set_option maxRecDepth 100000 in
theorem rf_o141 : rf_ok rf_m141 := ⟨by decide +kernel, _, rf_k141, fun _ _ h => rf_gd_lt h⟩
set_option maxRecDepth 100000 in
theorem rf_o142 : rf_ok rf_m142 := ⟨by decide +kernel, _, rf_k142, fun _ _ h => rf_gd_lt h⟩
set_option maxRecDepth 100000 in
theorem rf_o143 : rf_ok rf_m143 := ⟨by decide +kernel, _, rf_k143, fun _ _ h => rf_gd_lt h⟩
set_option maxRecDepth 100000 in
theorem rf_o144 : rf_ok rf_m144 := ⟨by decide +kernel, _, rf_k144, fun _ _ h => rf_gd_lt h⟩
set_option maxRecDepth 100000 in
theorem rf_o145 : rf_ok rf_m145 := ⟨by decide +kernel, _, rf_k145, fun _ _ h => rf_gd_lt h⟩
set_option maxRecDepth 100000 in
theorem rf_o146 : rf_ok rf_m146 := ⟨by decide +kernel, _, rf_k146, fun _ _ h => rf_gd_lt h⟩
set_option maxRecDepth 100000 in
theorem rf_o147 : rf_ok rf_m147 := ⟨by decide +kernel, _, rf_k147, fun _ _ h => rf_gd_lt h⟩
set_option maxRecDepth 100000 in
theorem rf_o148 : rf_ok rf_m148 := ⟨by decide +kernel, _, rf_k148, fun _ _ h => rf_gd_lt h⟩
set_option maxRecDepth 100000 in
theorem rf_o149 : rf_ok rf_m149 := ⟨by decide +kernel, _, rf_k149, fun _ _ h => rf_gd_lt h⟩
set_option maxRecDepth 100000 in
theorem rf_o150 : rf_ok rf_m150 := ⟨by decide +kernel, _, rf_k150, fun _ _ h => rf_gd_lt h⟩
set_option maxRecDepth 100000 in
theorem rf_o151 : rf_ok rf_m151 := ⟨by decide +kernel, _, rf_k151, fun _ _ h => rf_gd_lt h⟩
set_option maxRecDepth 100000 in
theorem rf_o152 : rf_ok rf_m152 := ⟨by decide +kernel, _, rf_k152, fun _ _ h => rf_gd_lt h⟩
set_option maxRecDepth 100000 in
theorem rf_o153 : rf_ok rf_m153 := ⟨by decide +kernel, _, rf_k153, fun _ _ h => rf_gd_lt h⟩
set_option maxRecDepth 100000 in
theorem rf_o154 : rf_ok rf_m154 := ⟨by decide +kernel, _, rf_k154, fun _ _ h => rf_gd_lt h⟩
set_option maxRecDepth 100000 in
theorem rf_o155 : rf_ok rf_m155 := ⟨by decide +kernel, _, rf_k155, fun _ _ h => rf_gd_lt h⟩
set_option maxRecDepth 100000 in
theorem rf_o156 : rf_ok rf_m156 := ⟨by decide +kernel, _, rf_k156, fun _ _ h => rf_gd_lt h⟩
set_option maxRecDepth 100000 in
theorem rf_o157 : rf_ok rf_m157 := ⟨by decide +kernel, _, rf_k157, fun _ _ h => rf_gd_lt h⟩
set_option maxRecDepth 100000 in
theorem rf_o158 : rf_ok rf_m158 := ⟨by decide +kernel, _, rf_k158, fun _ _ h => rf_gd_lt h⟩
set_option maxRecDepth 100000 in
theorem rf_o159 : rf_ok rf_m159 := ⟨by decide +kernel, _, rf_k159, fun _ _ h => rf_gd_lt h⟩
theorem rf_oks_7 : ∀ mj ∈ rf_ms_7, rf_ok mj := List.forall_mem_cons.mpr ⟨rf_o140, List.forall_mem_cons.mpr ⟨rf_o141, List.forall_mem_cons.mpr ⟨rf_o142, List.forall_mem_cons.mpr ⟨rf_o143, List.forall_mem_cons.mpr ⟨rf_o144, List.forall_mem_cons.mpr ⟨rf_o145, List.forall_mem_cons.mpr ⟨rf_o146, List.forall_mem_cons.mpr ⟨rf_o147, List.forall_mem_cons.mpr ⟨rf_o148, List.forall_mem_cons.mpr ⟨rf_o149, List.forall_mem_cons.mpr ⟨rf_o150, List.forall_mem_cons.mpr ⟨rf_o151, List.forall_mem_cons.mpr ⟨rf_o152, List.forall_mem_cons.mpr ⟨rf_o153, List.forall_mem_cons.mpr ⟨rf_o154, List.forall_mem_cons.mpr ⟨rf_o155, List.forall_mem_cons.mpr ⟨rf_o156, List.forall_mem_cons.mpr ⟨rf_o157, List.forall_mem_cons.mpr ⟨rf_o158, List.forall_mem_cons.mpr ⟨rf_o159, List.forall_mem_nil _⟩⟩⟩⟩⟩⟩⟩⟩⟩⟩⟩⟩⟩⟩⟩⟩⟩⟩⟩⟩
set_option maxRecDepth 100000 in
theorem rf_o160 : rf_ok rf_m160 := ⟨by decide +kernel, _, rf_k160, fun _ _ h => rf_gd_lt h⟩
set_option maxRecDepth 100000 in
theorem rf_o161 : rf_ok rf_m161 := ⟨by decide +kernel, _, rf_k161, fun _ _ h => rf_gd_lt h⟩
set_option maxRecDepth 100000 in
theorem rf_o162 : rf_ok rf_m162 := ⟨by decide +kernel, _, rf_k162, fun _ _ h => rf_gd_lt h⟩
set_option maxRecDepth 100000 in
theorem rf_o163 : rf_ok rf_m163 := ⟨by decide +kernel, _, rf_k163, fun _ _ h => rf_gd_lt h⟩
set_option maxRecDepth 100000 in
theorem rf_o164 : rf_ok rf_m164 := ⟨by decide +kernel, _, rf_k164, fun _ _ h => rf_gd_lt h⟩
set_option maxRecDepth 100000 in
theorem rf_o165 : rf_ok rf_m165 := ⟨by decide +kernel, _, rf_k165, fun _ _ h => rf_gd_lt h⟩
set_option maxRecDepth 100000 in
theorem rf_o166 : rf_ok rf_m166 := ⟨by decide +kernel, _, rf_k166, fun _ _ h => rf_gd_lt h⟩
set_option maxRecDepth 100000 in
theorem rf_o167 : rf_ok rf_m167 := ⟨by decide +kernel, _, rf_k167, fun _ _ h => rf_gd_lt h⟩
set_option maxRecDepth 100000 in
theorem rf_o168 : rf_ok rf_m168 := ⟨by decide +kernel, _, rf_k168, fun _ _ h => rf_gd_lt h⟩
set_option maxRecDepth 100000 in
theorem rf_o169 : rf_ok rf_m169 := ⟨by decide +kernel, _, rf_k169, fun _ _ h => rf_gd_lt h⟩
set_option maxRecDepth 100000 in
theorem rf_o170 : rf_ok rf_m170 := ⟨by decide +kernel, _, rf_k170, fun _ _ h => rf_gd_lt h⟩
set_option maxRecDepth 100000 in
theorem rf_o171 : rf_ok rf_m171 := ⟨by decide +kernel, _, rf_k171, fun _ _ h => rf_gd_lt h⟩
set_option maxRecDepth 100000 in
theorem rf_o172 : rf_ok rf_m172 := ⟨by decide +kernel, _, rf_k172, fun _ _ h => rf_gd_lt h⟩
set_option maxRecDepth 100000 in
theorem rf_o173 : rf_ok rf_m173 := ⟨by decide +kernel, _, rf_k173, fun _ _ h => rf_gd_lt h⟩
set_option maxRecDepth 100000 in
theorem rf_o174 : rf_ok rf_m174 := ⟨by decide +kernel, _, rf_k174, fun _ _ h => rf_gd_lt h⟩
set_option maxRecDepth 100000 in
theorem rf_o175 : rf_ok rf_m175 := ⟨by decide +kernel, _, rf_k175, fun _ _ h => rf_gd_lt h⟩
set_option maxRecDepth 100000 in
theorem rf_o176 : rf_ok rf_m176 := ⟨by decide +kernel, _, rf_k176, fun _ _ h => rf_gd_lt h⟩
set_option maxRecDepth 100000 in
theorem rf_o177 : rf_ok rf_m177 := ⟨by decide +kernel, _, rf_k177, fun _ _ h => rf_gd_lt h⟩
set_option maxRecDepth 100000 in
theorem rf_o178 : rf_ok rf_m178 := ⟨by decide +kernel, _, rf_k178, fun _ _ h => rf_gd_lt h⟩
set_option maxRecDepth 100000 in
theorem rf_o179 : rf_ok rf_m179 := ⟨by decide +kernel, _, rf_k179, fun _ _ h => rf_gd_lt h⟩
theorem rf_oks_8 : ∀ mj ∈ rf_ms_8, rf_ok mj := List.forall_mem_cons.mpr ⟨rf_o160, List.forall_mem_cons.mpr ⟨rf_o161, List.forall_mem_cons.mpr ⟨rf_o162, List.forall_mem_cons.mpr ⟨rf_o163, List.forall_mem_cons.mpr ⟨rf_o164, List.forall_mem_cons.mpr ⟨rf_o165, List.forall_mem_cons.mpr ⟨rf_o166, List.forall_mem_cons.mpr ⟨rf_o167, List.forall_mem_cons.mpr ⟨rf_o168, List.forall_mem_cons.mpr ⟨rf_o169, List.forall_mem_cons.mpr ⟨rf_o170, List.forall_mem_cons.mpr ⟨rf_o171, List.forall_mem_cons.mpr ⟨rf_o172, List.forall_mem_cons.mpr ⟨rf_o173, List.forall_mem_cons.mpr ⟨rf_o174, List.forall_mem_cons.mpr ⟨rf_o175, List.forall_mem_cons.mpr ⟨rf_o176, List.forall_mem_cons.mpr ⟨rf_o177, List.forall_mem_cons.mpr ⟨rf_o178, List.forall_mem_cons.mpr ⟨rf_o179, List.forall_mem_nil _⟩⟩⟩⟩⟩⟩⟩⟩⟩⟩⟩⟩⟩⟩⟩⟩⟩⟩⟩⟩
set_option maxRecDepth 100000 in
theorem rf_o180 : rf_ok rf_m180 := ⟨by decide +kernel, _, rf_k180, fun _ _ h => rf_gd_lt h⟩
set_option maxRecDepth 100000 in
theorem rf_o181 : rf_ok rf_m181 := ⟨by decide +kernel, _, rf_k181, fun _ _ h => rf_gd_lt h⟩
set_option maxRecDepth 100000 in
theorem rf_o182 : rf_ok rf_m182 := ⟨by decide +kernel, _, rf_k182, fun _ _ h => rf_gd_lt h⟩
set_option maxRecDepth 100000 in
theorem rf_o183 : rf_ok rf_m183 := ⟨by decide +kernel, _, rf_k183, fun _ _ h => rf_gd_lt h⟩
set_option maxRecDepth 100000 in
theorem rf_o184 : rf_ok rf_m184 := ⟨by decide +kernel, _, rf_k184, fun _ _ h => rf_gd_lt h⟩
set_option maxRecDepth 100000 in
theorem rf_o185 : rf_ok rf_m185 := ⟨by decide +kernel, _, rf_k185, fun _ _ h => rf_gd_lt h⟩
set_option maxRecDepth 100000 in
theorem rf_o186 : rf_ok rf_m186 := ⟨by decide +kernel, _, rf_k186, fun _ _ h => rf_gd_lt h⟩
set_option maxRecDepth 100000 in
theorem rf_o187 : rf_ok rf_m187 := ⟨by decide +kernel, _, rf_k187, fun _ _ h => rf_gd_lt h⟩
set_option maxRecDepth 100000 in
theorem rf_o188 : rf_ok rf_m188 := ⟨by decide +kernel, _, rf_k188, fun _ _ h => rf_gd_lt h⟩
set_option maxRecDepth 100000 in
theorem rf_o189 : rf_ok rf_m189 := ⟨by decide +kernel, _, rf_k189, fun _ _ h => rf_gd_lt h⟩
set_option maxRecDepth 100000 in
theorem rf_o190 : rf_ok rf_m190 := ⟨by decide +kernel, _, rf_k190, fun _ _ h => rf_gd_lt h⟩
set_option maxRecDepth 100000 in
theorem rf_o191 : rf_ok rf_m191 := ⟨by decide +kernel, _, rf_k191, fun _ _ h => rf_gd_lt h⟩
set_option maxRecDepth 100000 in
theorem rf_o192 : rf_ok rf_m192 := ⟨by decide +kernel, _, rf_k192, fun _ _ h => rf_gd_lt h⟩
set_option maxRecDepth 100000 in
theorem rf_o193 : rf_ok rf_m193 := ⟨by decide +kernel, _, rf_k193, fun _ _ h => rf_gd_lt h⟩
set_option maxRecDepth 100000 in
theorem rf_o194 : rf_ok rf_m194 := ⟨by decide +kernel, _, rf_k194, fun _ _ h => rf_gd_lt h⟩
set_option maxRecDepth 100000 in
theorem rf_o195 : rf_ok rf_m195 := ⟨by decide +kernel, _, rf_k195, fun _ _ h => rf_gd_lt h⟩
set_option maxRecDepth 100000 in
theorem rf_o196 : rf_ok rf_m196 := ⟨by decide +kernel, _, rf_k196, fun _ _ h => rf_gd_lt h⟩
set_option maxRecDepth 100000 in
theorem rf_o197 : rf_ok rf_m197 := ⟨by decide +kernel, _, rf_k197, fun _ _ h => rf_gd_lt h⟩
set_option maxRecDepth 100000 in
theorem rf_o198 : rf_ok rf_m198 := ⟨by decide +kernel, _, rf_k198, fun _ _ h => rf_gd_lt h⟩
set_option maxRecDepth 100000 in
theorem rf_o199 : rf_ok rf_m199 := ⟨by decide +kernel, _, rf_k199, fun _ _ h => rf_gd_lt h⟩
theorem rf_oks_9 : ∀ mj ∈ rf_ms_9, rf_ok mj := List.forall_mem_cons.mpr ⟨rf_o180, List.forall_mem_cons.mpr ⟨rf_o181, List.forall_mem_cons.mpr ⟨rf_o182, List.forall_mem_cons.mpr ⟨rf_o183, List.forall_mem_cons.mpr ⟨rf_o184, List.forall_mem_cons.mpr ⟨rf_o185, List.forall_mem_cons.mpr ⟨rf_o186, List.forall_mem_cons.mpr ⟨rf_o187, List.forall_mem_cons.mpr ⟨rf_o188, List.forall_mem_cons.mpr ⟨rf_o189, List.forall_mem_cons.mpr ⟨rf_o190, List.forall_mem_cons.mpr ⟨rf_o191, List.forall_mem_cons.mpr ⟨rf_o192, List.forall_mem_cons.mpr ⟨rf_o193, List.forall_mem_cons.mpr ⟨rf_o194, List.forall_mem_cons.mpr ⟨rf_o195, List.forall_mem_cons.mpr ⟨rf_o196, List.forall_mem_cons.mpr ⟨rf_o197, List.forall_mem_cons.mpr ⟨rf_o198, List.forall_mem_cons.mpr ⟨rf_o199, List.forall_mem_nil _⟩⟩⟩⟩⟩⟩⟩⟩⟩⟩⟩⟩⟩⟩⟩⟩⟩⟩⟩⟩
set_option maxRecDepth 100000 in
theorem rf_o200 : rf_ok rf_m200 := ⟨by decide +kernel, _, rf_k200, fun _ _ h => rf_gd_lt h⟩
set_option maxRecDepth 100000 in
theorem rf_o201 : rf_ok rf_m201 := ⟨by decide +kernel, _, rf_k201, fun _ _ h => rf_gd_lt h⟩
set_option maxRecDepth 100000 in
theorem rf_o202 : rf_ok rf_m202 := ⟨by decide +kernel, _, rf_k202, fun _ _ h => rf_gd_lt h⟩
set_option maxRecDepth 100000 in
theorem rf_o203 : rf_ok rf_m203 := ⟨by decide +kernel, _, rf_k203, fun _ _ h => rf_gd_lt h⟩
set_option maxRecDepth 100000 in
theorem rf_o204 : rf_ok rf_m204 := ⟨by decide +kernel, _, rf_k204, fun _ _ h => rf_gd_lt h⟩
set_option maxRecDepth 100000 in
theorem rf_o205 : rf_ok rf_m205 := ⟨by decide +kernel, _, rf_k205, fun _ _ h => rf_gd_lt h⟩
set_option maxRecDepth 100000 in
theorem rf_o206 : rf_ok rf_m206 := ⟨by decide +kernel, _, rf_k206, fun _ _ h => rf_gd_lt h⟩
set_option maxRecDepth 100000 in
theorem rf_o207 : rf_ok rf_m207 := ⟨by decide +kernel, _, rf_k207, fun _ _ h => rf_gd_lt h⟩
set_option maxRecDepth 100000 in
theorem rf_o208 : rf_ok rf_m208 := ⟨by decide +kernel, _, rf_k208, fun _ _ h => rf_gd_lt h⟩
set_option maxRecDepth 100000 in
theorem rf_o209 : rf_ok rf_m209 := ⟨by decide +kernel, _, rf_k209, fun _ _ h => rf_gd_lt h⟩
set_option maxRecDepth 100000 in
theorem rf_o210 : rf_ok rf_m210 := ⟨by decide +kernel, _, rf_k210, fun _ _ h => rf_gd_lt h⟩
set_option maxRecDepth 100000 in
theorem rf_o211 : rf_ok rf_m211 := ⟨by decide +kernel, _, rf_k211, fun _ _ h => rf_gd_lt h⟩
set_option maxRecDepth 100000 in
theorem rf_o212 : rf_ok rf_m212 := ⟨by decide +kernel, _, rf_k212, fun _ _ h => rf_gd_lt h⟩
set_option maxRecDepth 100000 in
theorem rf_o213 : rf_ok rf_m213 := ⟨by decide +kernel, _, rf_k213, fun _ _ h => rf_gd_lt h⟩
set_option maxRecDepth 100000 in
theorem rf_o214 : rf_ok rf_m214 := ⟨by decide +kernel, _, rf_k214, fun _ _ h => rf_gd_lt h⟩
set_option maxRecDepth 100000 in
theorem rf_o215 : rf_ok rf_m215 := ⟨by decide +kernel, _, rf_k215, fun _ _ h => rf_gd_lt h⟩
set_option maxRecDepth 100000 in
theorem rf_o216 : rf_ok rf_m216 := ⟨by decide +kernel, _, rf_k216, fun _ _ h => rf_gd_lt h⟩
set_option maxRecDepth 100000 in
theorem rf_o217 : rf_ok rf_m217 := ⟨by decide +kernel, _, rf_k217, fun _ _ h => rf_gd_lt h⟩
set_option maxRecDepth 100000 in
theorem rf_o218 : rf_ok rf_m218 := ⟨by decide +kernel, _, rf_k218, fun _ _ h => rf_gd_lt h⟩
set_option maxRecDepth 100000 in
theorem rf_o219 : rf_ok rf_m219 := ⟨by decide +kernel, _, rf_k219, fun _ _ h => rf_gd_lt h⟩
theorem rf_oks_10 : ∀ mj ∈ rf_ms_10, rf_ok mj := List.forall_mem_cons.mpr ⟨rf_o200, List.forall_mem_cons.mpr ⟨rf_o201, List.forall_mem_cons.mpr ⟨rf_o202, List.forall_mem_cons.mpr ⟨rf_o203, List.forall_mem_cons.mpr ⟨rf_o204, List.forall_mem_cons.mpr ⟨rf_o205, List.forall_mem_cons.mpr ⟨rf_o206, List.forall_mem_cons.mpr ⟨rf_o207, List.forall_mem_cons.mpr ⟨rf_o208, List.forall_mem_cons.mpr ⟨rf_o209, List.forall_mem_cons.mpr ⟨rf_o210, List.forall_mem_cons.mpr ⟨rf_o211, List.forall_mem_cons.mpr ⟨rf_o212, List.forall_mem_cons.mpr ⟨rf_o213, List.forall_mem_cons.mpr ⟨rf_o214, List.forall_mem_cons.mpr ⟨rf_o215, List.forall_mem_cons.mpr ⟨rf_o216, List.forall_mem_cons.mpr ⟨rf_o217, List.forall_mem_cons.mpr ⟨rf_o218, List.forall_mem_cons.mpr ⟨rf_o219, List.forall_mem_nil _⟩⟩⟩⟩⟩⟩⟩⟩⟩⟩⟩⟩⟩⟩⟩⟩⟩⟩⟩⟩
set_option maxRecDepth 100000 in
theorem rf_o220 : rf_ok rf_m220 := ⟨by decide +kernel, _, rf_k220, fun _ _ h => rf_gd_lt h⟩
set_option maxRecDepth 100000 in
theorem rf_o221 : rf_ok rf_m221 := ⟨by decide +kernel, _, rf_k221, fun _ _ h => rf_gd_lt h⟩
set_option maxRecDepth 100000 in
theorem rf_o222 : rf_ok rf_m222 := ⟨by decide +kernel, _, rf_k222, fun _ _ h => rf_gd_lt h⟩
set_option maxRecDepth 100000 in
theorem rf_o223 : rf_ok rf_m223 := ⟨by decide +kernel, _, rf_k223, fun _ _ h => rf_gd_lt h⟩
set_option maxRecDepth 100000 in
theorem rf_o224 : rf_ok rf_m224 := ⟨by decide +kernel, _, rf_k224, fun _ _ h => rf_gd_lt h⟩
set_option maxRecDepth 100000 in
theorem rf_o225 : rf_ok rf_m225 := ⟨by decide +kernel, _, rf_k225, fun _ _ h => rf_gd_lt h⟩
set_option maxRecDepth 100000 in
theorem rf_o226 : rf_ok rf_m226 := ⟨by decide +kernel, _, rf_k226, fun _ _ h => rf_gd_lt h⟩
set_option maxRecDepth 100000 in
theorem rf_o227 : rf_ok rf_m227 := ⟨by decide +kernel, _, rf_k227, fun _ _ h => rf_gd_lt h⟩
set_option maxRecDepth 100000 in
theorem rf_o228 : rf_ok rf_m228 := ⟨by decide +kernel, _, rf_k228, fun _ _ h => rf_gd_lt h⟩
set_option maxRecDepth 100000 in
theorem rf_o229 : rf_ok rf_m229 := ⟨by decide +kernel, _, rf_k229, fun _ _ h => rf_gd_lt h⟩
theorem rf_oks_11 : ∀ mj ∈ rf_ms_11, rf_ok mj := List.forall_mem_cons.mpr ⟨rf_o220, List.forall_mem_cons.mpr ⟨rf_o221, List.forall_mem_cons.mpr ⟨rf_o222, List.forall_mem_cons.mpr ⟨rf_o223, List.forall_mem_cons.mpr ⟨rf_o224, List.forall_mem_cons.mpr ⟨rf_o225, List.forall_mem_cons.mpr ⟨rf_o226, List.forall_mem_cons.mpr ⟨rf_o227, List.forall_mem_cons.mpr ⟨rf_o228, List.forall_mem_cons.mpr ⟨rf_o229, List.forall_mem_nil _⟩⟩⟩⟩⟩⟩⟩⟩⟩⟩
theorem rf_oks : ∀ mj ∈ rf_ms, rf_ok mj := List.forall_mem_append.mpr ⟨rf_oks_0, List.forall_mem_append.mpr ⟨rf_oks_1, List.forall_mem_append.mpr ⟨rf_oks_2, List.forall_mem_append.mpr ⟨rf_oks_3, List.forall_mem_append.mpr ⟨rf_oks_4, List.forall_mem_append.mpr ⟨rf_oks_5, List.forall_mem_append.mpr ⟨rf_oks_6, List.forall_mem_append.mpr ⟨rf_oks_7, List.forall_mem_append.mpr ⟨rf_oks_8, List.forall_mem_append.mpr ⟨rf_oks_9, List.forall_mem_append.mpr ⟨rf_oks_10, rf_oks_11⟩⟩⟩⟩⟩⟩⟩⟩⟩⟩⟩
set_option maxRecDepth 100000 in
theorem rf_kL_0 : rf_chkR rf_ms rf_law 0 100 = true := by decide +kernel
set_option maxRecDepth 100000 in
theorem rf_kL_100 : rf_chkR rf_ms rf_law 100 100 = true := by decide +kernel
set_option maxRecDepth 100000 in
theorem rf_kL_200 : rf_chkR rf_ms rf_law 200 100 = true := by decide +kernel
set_option maxRecDepth 100000 in
theorem rf_kL_300 : rf_chkR rf_ms rf_law 300 100 = true := by decide +kernel
set_option maxRecDepth 100000 in
theorem rf_kL_400 : rf_chkR rf_ms rf_law 400 100 = true := by decide +kernel
set_option maxRecDepth 100000 in
theorem rf_kL_500 : rf_chkR rf_ms rf_law 500 100 = true := by decide +kernel
set_option maxRecDepth 100000 in
theorem rf_kL_600 : rf_chkR rf_ms rf_law 600 100 = true := by decide +kernel
set_option maxRecDepth 100000 in
theorem rf_kL_700 : rf_chkR rf_ms rf_law 700 100 = true := by decide +kernel
set_option maxRecDepth 100000 in
theorem rf_kL_800 : rf_chkR rf_ms rf_law 800 100 = true := by decide +kernel
set_option maxRecDepth 100000 in
theorem rf_kL_900 : rf_chkR rf_ms rf_law 900 100 = true := by decide +kernel
set_option maxRecDepth 100000 in
theorem rf_kL_1000 : rf_chkR rf_ms rf_law 1000 100 = true := by decide +kernel
set_option maxRecDepth 100000 in
theorem rf_kL_1100 : rf_chkR rf_ms rf_law 1100 100 = true := by decide +kernel
set_option maxRecDepth 100000 in
theorem rf_kL_1200 : rf_chkR rf_ms rf_law 1200 62 = true := by decide +kernel
theorem rf_lawok : ∀ pc E, rf_law.2.2 pc = some E → rf_chk rf_ms rf_law.1.2.2.2.2 rf_law.1.2.1 rf_law.1.1.name rf_law.1.2.2.1 rf_law.1.2.2.2.1 pc E = true := by
  intro pc E h
  have hlt : pc < 1262 := rf_gd_lt h
  by_cases h0 : pc < 100
  · exact rf_chkR_at rf_kL_0 h (by omega) (by omega)
  by_cases h100 : pc < 200
  · exact rf_chkR_at rf_kL_100 h (by omega) (by omega)
  by_cases h200 : pc < 300
  · exact rf_chkR_at rf_kL_200 h (by omega) (by omega)
  by_cases h300 : pc < 400
  · exact rf_chkR_at rf_kL_300 h (by omega) (by omega)
  by_cases h400 : pc < 500
  · exact rf_chkR_at rf_kL_400 h (by omega) (by omega)
  by_cases h500 : pc < 600
  · exact rf_chkR_at rf_kL_500 h (by omega) (by omega)
  by_cases h600 : pc < 700
  · exact rf_chkR_at rf_kL_600 h (by omega) (by omega)
  by_cases h700 : pc < 800
  · exact rf_chkR_at rf_kL_700 h (by omega) (by omega)
  by_cases h800 : pc < 900
  · exact rf_chkR_at rf_kL_800 h (by omega) (by omega)
  by_cases h900 : pc < 1000
  · exact rf_chkR_at rf_kL_900 h (by omega) (by omega)
  by_cases h1000 : pc < 1100
  · exact rf_chkR_at rf_kL_1000 h (by omega) (by omega)
  by_cases h1100 : pc < 1200
  · exact rf_chkR_at rf_kL_1100 h (by omega) (by omega)
  by_cases h1200 : pc < 1262
  · exact rf_chkR_at rf_kL_1200 h (by omega) (by omega)
  omega
