/-! all methods: what is known of them holds -/
section
variable {LL : Nat} {xs : Nat → Int32}
def zb_P (LL : Nat) (xs : Nat → Int32) (b : Nat) (p : zb_Sp) : Prop := p.1.2.2.2.1.length = 66 ∧ zb_Ind zb_tT 90 66 (rf_SA LL xs) rf_ms zb_SP b p
theorem zb_tr {α : Type} {c : Bool} {p : α} {X Y : List α} (h : p ∈ (bif c then X else Y)) : (c = true ∧ p ∈ X) ∨ (c = false ∧ p ∈ Y) := by
  cases c with
  | true => exact Or.inl ⟨rfl, h⟩
  | false => exact Or.inr ⟨rfl, h⟩
theorem zb_lf {P : Nat → zb_Sp → Prop} {b k : Nat} {p q : zb_Sp} {l : List zb_Sp} (hb : Nat.beq b k = true) (h : p ∈ q :: l) (t : P k q) (r : p ∈ l → P b p) : P b p := by
  rcases List.mem_cons.mp h with h | h
  · rw [h, Nat.eq_of_beq_eq_true hb]
    exact t
  · exact r h
theorem zb_no {P : Prop} {p : zb_Sp} (h : p ∈ ([] : List zb_Sp)) : P := absurd h List.not_mem_nil
theorem zb_tt {F t0 b : Nat} {sp : List Nat} {mi : rf_M} {p : zb_Sp} (hLL : LL < 2 ^ 31) (ht : 0 < t0) (hmi : rf_ms[b]? = some mi) (hc : zb_chk zb_tT (false, sp) rf_ms zb_SP zb_nX F t0 zb_ns mi p = true) : zb_P LL xs b p := ⟨(zb_dn_ok (an_and hc).1).1, zb_ind_t (loc := zb_locT) (by decide) hLL zb_hloc zb_hlc ht hmi hc⟩
set_option maxRecDepth 100000 in
theorem zb_i4_0 (hLL : LL < 2 ^ 31) : zb_P LL xs 4 zb_p4_0 := zb_tt hLL (by decide) rfl zb_c4_0
set_option maxRecDepth 100000 in
theorem zb_i6_0 (hLL : LL < 2 ^ 31) : zb_P LL xs 6 zb_p6_0 := zb_tt hLL (by decide) rfl zb_c6_0
set_option maxRecDepth 100000 in
theorem zb_i6_1 (hLL : LL < 2 ^ 31) : zb_P LL xs 6 zb_p6_1 := zb_tt hLL (by decide) rfl zb_c6_1
set_option maxRecDepth 100000 in
theorem zb_i6_2 (hLL : LL < 2 ^ 31) : zb_P LL xs 6 zb_p6_2 := zb_tt hLL (by decide) rfl zb_c6_2
set_option maxRecDepth 100000 in
theorem zb_i6_3 (hLL : LL < 2 ^ 31) : zb_P LL xs 6 zb_p6_3 := zb_tt hLL (by decide) rfl zb_c6_3
set_option maxRecDepth 100000 in
theorem zb_i19_0 (hLL : LL < 2 ^ 31) : zb_P LL xs 19 zb_p19_0 := zb_tt hLL (by decide) rfl zb_c19_0
set_option maxRecDepth 100000 in
theorem zb_i21_0 (hLL : LL < 2 ^ 31) : zb_P LL xs 21 zb_p21_0 := zb_tt hLL (by decide) rfl zb_c21_0
set_option maxRecDepth 100000 in
theorem zb_i22_0 (hLL : LL < 2 ^ 31) : zb_P LL xs 22 zb_p22_0 := zb_tt hLL (by decide) rfl zb_c22_0
set_option maxRecDepth 100000 in
theorem zb_i23_0 (hLL : LL < 2 ^ 31) : zb_P LL xs 23 zb_p23_0 := zb_tt hLL (by decide) rfl zb_c23_0
set_option maxRecDepth 100000 in
theorem zb_i26_0 (hLL : LL < 2 ^ 31) : zb_P LL xs 26 zb_p26_0 := zb_tt hLL (by decide) rfl zb_c26_0
set_option maxRecDepth 100000 in
theorem zb_i32_0 (hLL : LL < 2 ^ 31) : zb_P LL xs 32 zb_p32_0 := zb_tt hLL (by decide) rfl zb_c32_0
set_option maxRecDepth 100000 in
theorem zb_i33_0 (hLL : LL < 2 ^ 31) : zb_P LL xs 33 zb_p33_0 := zb_tt hLL (by decide) rfl zb_c33_0
set_option maxRecDepth 100000 in
theorem zb_i33_1 (hLL : LL < 2 ^ 31) : zb_P LL xs 33 zb_p33_1 := zb_tt hLL (by decide) rfl zb_c33_1
set_option maxRecDepth 100000 in
theorem zb_i33_2 (hLL : LL < 2 ^ 31) : zb_P LL xs 33 zb_p33_2 := zb_tt hLL (by decide) rfl zb_c33_2
set_option maxRecDepth 100000 in
theorem zb_i33_3 (hLL : LL < 2 ^ 31) : zb_P LL xs 33 zb_p33_3 := zb_tt hLL (by decide) rfl zb_c33_3
set_option maxRecDepth 100000 in
theorem zb_i33_4 (hLL : LL < 2 ^ 31) : zb_P LL xs 33 zb_p33_4 := zb_tt hLL (by decide) rfl zb_c33_4
set_option maxRecDepth 100000 in
theorem zb_i33_5 (hLL : LL < 2 ^ 31) : zb_P LL xs 33 zb_p33_5 := zb_tt hLL (by decide) rfl zb_c33_5
set_option maxRecDepth 100000 in
theorem zb_i34_0 (hLL : LL < 2 ^ 31) : zb_P LL xs 34 zb_p34_0 := zb_tt hLL (by decide) rfl zb_c34_0
set_option maxRecDepth 100000 in
theorem zb_i36_0 (hLL : LL < 2 ^ 31) : zb_P LL xs 36 zb_p36_0 := zb_tt hLL (by decide) rfl zb_c36_0
set_option maxRecDepth 100000 in
theorem zb_i40_0 (hLL : LL < 2 ^ 31) : zb_P LL xs 40 zb_p40_0 := zb_tt hLL (by decide) rfl zb_c40_0
set_option maxRecDepth 100000 in
theorem zb_i47_0 (hLL : LL < 2 ^ 31) : zb_P LL xs 47 zb_p47_0 := zb_tt hLL (by decide) rfl zb_c47_0
set_option maxRecDepth 100000 in
theorem zb_i62_0 (hLL : LL < 2 ^ 31) : zb_P LL xs 62 zb_p62_0 := zb_tt hLL (by decide) rfl zb_c62_0
set_option maxRecDepth 100000 in
theorem zb_i72_0 (hLL : LL < 2 ^ 31) : zb_P LL xs 72 zb_p72_0 := zb_tt hLL (by decide) rfl zb_c72_0
set_option maxRecDepth 100000 in
theorem zb_i73_0 (hLL : LL < 2 ^ 31) : zb_P LL xs 73 zb_p73_0 := zb_tt hLL (by decide) rfl zb_c73_0
set_option maxRecDepth 100000 in
theorem zb_i76_0 (hLL : LL < 2 ^ 31) : zb_P LL xs 76 zb_p76_0 := zb_tt hLL (by decide) rfl zb_c76_0
set_option maxRecDepth 100000 in
theorem zb_i77_0 (hLL : LL < 2 ^ 31) : zb_P LL xs 77 zb_p77_0 := zb_tt hLL (by decide) rfl zb_c77_0
set_option maxRecDepth 100000 in
theorem zb_i78_0 (hLL : LL < 2 ^ 31) : zb_P LL xs 78 zb_p78_0 := zb_tt hLL (by decide) rfl zb_c78_0
set_option maxRecDepth 100000 in
theorem zb_i79_0 (hLL : LL < 2 ^ 31) : zb_P LL xs 79 zb_p79_0 := zb_tt hLL (by decide) rfl zb_c79_0
set_option maxRecDepth 100000 in
theorem zb_i80_0 (hLL : LL < 2 ^ 31) : zb_P LL xs 80 zb_p80_0 := zb_tt hLL (by decide) rfl zb_c80_0
set_option maxRecDepth 100000 in
theorem zb_i81_0 (hLL : LL < 2 ^ 31) : zb_P LL xs 81 zb_p81_0 := zb_tt hLL (by decide) rfl zb_c81_0
set_option maxRecDepth 100000 in
theorem zb_i83_0 (hLL : LL < 2 ^ 31) : zb_P LL xs 83 zb_p83_0 := zb_tt hLL (by decide) rfl zb_c83_0
set_option maxRecDepth 100000 in
theorem zb_i84_0 (hLL : LL < 2 ^ 31) : zb_P LL xs 84 zb_p84_0 := zb_tt hLL (by decide) rfl zb_c84_0
set_option maxRecDepth 100000 in
theorem zb_i85_0 (hLL : LL < 2 ^ 31) : zb_P LL xs 85 zb_p85_0 := zb_tt hLL (by decide) rfl zb_c85_0
set_option maxRecDepth 100000 in
theorem zb_i86_0 (hLL : LL < 2 ^ 31) : zb_P LL xs 86 zb_p86_0 := zb_tt hLL (by decide) rfl zb_c86_0
set_option maxRecDepth 100000 in
theorem zb_i87_0 (hLL : LL < 2 ^ 31) : zb_P LL xs 87 zb_p87_0 := zb_tt hLL (by decide) rfl zb_c87_0
set_option maxRecDepth 100000 in
theorem zb_i88_0 (hLL : LL < 2 ^ 31) : zb_P LL xs 88 zb_p88_0 := zb_tt hLL (by decide) rfl zb_c88_0
set_option maxRecDepth 100000 in
theorem zb_i89_0 (hLL : LL < 2 ^ 31) : zb_P LL xs 89 zb_p89_0 := zb_tt hLL (by decide) rfl zb_c89_0
set_option maxRecDepth 100000 in
theorem zb_i90_0 (hLL : LL < 2 ^ 31) : zb_P LL xs 90 zb_p90_0 := zb_tt hLL (by decide) rfl zb_c90_0
set_option maxRecDepth 100000 in
theorem zb_i92_0 (hLL : LL < 2 ^ 31) : zb_P LL xs 92 zb_p92_0 := zb_tt hLL (by decide) rfl zb_c92_0
set_option maxRecDepth 100000 in
theorem zb_i93_0 (hLL : LL < 2 ^ 31) : zb_P LL xs 93 zb_p93_0 := zb_tt hLL (by decide) rfl zb_c93_0
set_option maxRecDepth 100000 in
theorem zb_i97_0 (hLL : LL < 2 ^ 31) : zb_P LL xs 97 zb_p97_0 := zb_tt hLL (by decide) rfl zb_c97_0
set_option maxRecDepth 100000 in
theorem zb_i99_0 (hLL : LL < 2 ^ 31) : zb_P LL xs 99 zb_p99_0 := zb_tt hLL (by decide) rfl zb_c99_0
set_option maxRecDepth 100000 in
theorem zb_i101_0 (hLL : LL < 2 ^ 31) : zb_P LL xs 101 zb_p101_0 := zb_tt hLL (by decide) rfl zb_c101_0
set_option maxRecDepth 100000 in
theorem zb_i102_0 (hLL : LL < 2 ^ 31) : zb_P LL xs 102 zb_p102_0 := zb_tt hLL (by decide) rfl zb_c102_0
set_option maxRecDepth 100000 in
theorem zb_i103_0 (hLL : LL < 2 ^ 31) : zb_P LL xs 103 zb_p103_0 := zb_tt hLL (by decide) rfl zb_c103_0
set_option maxRecDepth 100000 in
theorem zb_i104_0 (hLL : LL < 2 ^ 31) : zb_P LL xs 104 zb_p104_0 := zb_tt hLL (by decide) rfl zb_c104_0
set_option maxRecDepth 100000 in
theorem zb_i105_0 (hLL : LL < 2 ^ 31) : zb_P LL xs 105 zb_p105_0 := zb_tt hLL (by decide) rfl zb_c105_0
set_option maxRecDepth 100000 in
theorem zb_i106_0 (hLL : LL < 2 ^ 31) : zb_P LL xs 106 zb_p106_0 := zb_tt hLL (by decide) rfl zb_c106_0
set_option maxRecDepth 100000 in
theorem zb_i107_0 (hLL : LL < 2 ^ 31) : zb_P LL xs 107 zb_p107_0 := zb_tt hLL (by decide) rfl zb_c107_0
set_option maxRecDepth 100000 in
theorem zb_i109_0 (hLL : LL < 2 ^ 31) : zb_P LL xs 109 zb_p109_0 := zb_tt hLL (by decide) rfl zb_c109_0
set_option maxRecDepth 100000 in
theorem zb_i110_0 (hLL : LL < 2 ^ 31) : zb_P LL xs 110 zb_p110_0 := zb_tt hLL (by decide) rfl zb_c110_0
set_option maxRecDepth 100000 in
theorem zb_i111_0 (hLL : LL < 2 ^ 31) : zb_P LL xs 111 zb_p111_0 := zb_tt hLL (by decide) rfl zb_c111_0
set_option maxRecDepth 100000 in
theorem zb_i112_0 (hLL : LL < 2 ^ 31) : zb_P LL xs 112 zb_p112_0 := zb_tt hLL (by decide) rfl zb_c112_0
set_option maxRecDepth 100000 in
theorem zb_i113_0 (hLL : LL < 2 ^ 31) : zb_P LL xs 113 zb_p113_0 := zb_tt hLL (by decide) rfl zb_c113_0
set_option maxRecDepth 100000 in
theorem zb_i114_0 (hLL : LL < 2 ^ 31) : zb_P LL xs 114 zb_p114_0 := zb_tt hLL (by decide) rfl zb_c114_0
set_option maxRecDepth 100000 in
theorem zb_i115_0 (hLL : LL < 2 ^ 31) : zb_P LL xs 115 zb_p115_0 := zb_tt hLL (by decide) rfl zb_c115_0
set_option maxRecDepth 100000 in
theorem zb_i116_0 (hLL : LL < 2 ^ 31) : zb_P LL xs 116 zb_p116_0 := zb_tt hLL (by decide) rfl zb_c116_0
set_option maxRecDepth 100000 in
theorem zb_i117_0 (hLL : LL < 2 ^ 31) : zb_P LL xs 117 zb_p117_0 := zb_tt hLL (by decide) rfl zb_c117_0
set_option maxRecDepth 100000 in
theorem zb_i118_0 (hLL : LL < 2 ^ 31) : zb_P LL xs 118 zb_p118_0 := zb_tt hLL (by decide) rfl zb_c118_0
set_option maxRecDepth 100000 in
theorem zb_i119_0 (hLL : LL < 2 ^ 31) : zb_P LL xs 119 zb_p119_0 := zb_tt hLL (by decide) rfl zb_c119_0
set_option maxRecDepth 100000 in
theorem zb_i120_0 (hLL : LL < 2 ^ 31) : zb_P LL xs 120 zb_p120_0 := zb_tt hLL (by decide) rfl zb_c120_0
set_option maxRecDepth 100000 in
theorem zb_i121_0 (hLL : LL < 2 ^ 31) : zb_P LL xs 121 zb_p121_0 := zb_tt hLL (by decide) rfl zb_c121_0
set_option maxRecDepth 100000 in
theorem zb_i122_0 (hLL : LL < 2 ^ 31) : zb_P LL xs 122 zb_p122_0 := zb_tt hLL (by decide) rfl zb_c122_0
set_option maxRecDepth 100000 in
theorem zb_i123_0 (hLL : LL < 2 ^ 31) : zb_P LL xs 123 zb_p123_0 := zb_tt hLL (by decide) rfl zb_c123_0
set_option maxRecDepth 100000 in
theorem zb_i124_0 (hLL : LL < 2 ^ 31) : zb_P LL xs 124 zb_p124_0 := zb_tt hLL (by decide) rfl zb_c124_0
set_option maxRecDepth 100000 in
theorem zb_i125_0 (hLL : LL < 2 ^ 31) : zb_P LL xs 125 zb_p125_0 := zb_tt hLL (by decide) rfl zb_c125_0
set_option maxRecDepth 100000 in
theorem zb_i126_0 (hLL : LL < 2 ^ 31) : zb_P LL xs 126 zb_p126_0 := zb_tt hLL (by decide) rfl zb_c126_0
set_option maxRecDepth 100000 in
theorem zb_i127_0 (hLL : LL < 2 ^ 31) : zb_P LL xs 127 zb_p127_0 := zb_tt hLL (by decide) rfl zb_c127_0
set_option maxRecDepth 100000 in
theorem zb_i128_0 (hLL : LL < 2 ^ 31) : zb_P LL xs 128 zb_p128_0 := zb_tt hLL (by decide) rfl zb_c128_0
set_option maxRecDepth 100000 in
theorem zb_i133_0 (hLL : LL < 2 ^ 31) : zb_P LL xs 133 zb_p133_0 := zb_tt hLL (by decide) rfl zb_c133_0
set_option maxRecDepth 100000 in
theorem zb_i134_0 (hLL : LL < 2 ^ 31) : zb_P LL xs 134 zb_p134_0 := zb_tt hLL (by decide) rfl zb_c134_0
set_option maxRecDepth 100000 in
theorem zb_i139_0 (hLL : LL < 2 ^ 31) : zb_P LL xs 139 zb_p139_0 := ⟨rfl, zb_ind_h zb_h139⟩
set_option maxRecDepth 100000 in
theorem zb_i142_0 (hLL : LL < 2 ^ 31) : zb_P LL xs 142 zb_p142_0 := zb_tt hLL (by decide) rfl zb_c142_0
set_option maxRecDepth 100000 in
theorem zb_i143_0 (hLL : LL < 2 ^ 31) : zb_P LL xs 143 zb_p143_0 := zb_tt hLL (by decide) rfl zb_c143_0
set_option maxRecDepth 100000 in
theorem zb_i144_0 (hLL : LL < 2 ^ 31) : zb_P LL xs 144 zb_p144_0 := zb_tt hLL (by decide) rfl zb_c144_0
set_option maxRecDepth 100000 in
theorem zb_i147_0 (hLL : LL < 2 ^ 31) : zb_P LL xs 147 zb_p147_0 := zb_tt hLL (by decide) rfl zb_c147_0
set_option maxRecDepth 100000 in
theorem zb_i149_0 (hLL : LL < 2 ^ 31) : zb_P LL xs 149 zb_p149_0 := zb_tt hLL (by decide) rfl zb_c149_0
set_option maxRecDepth 100000 in
theorem zb_i152_0 (hLL : LL < 2 ^ 31) : zb_P LL xs 152 zb_p152_0 := zb_tt hLL (by decide) rfl zb_c152_0
set_option maxRecDepth 100000 in
theorem zb_i153_0 (hLL : LL < 2 ^ 31) : zb_P LL xs 153 zb_p153_0 := ⟨rfl, zb_ind_h zb_h153⟩
set_option maxRecDepth 100000 in
theorem zb_i155_0 (hLL : LL < 2 ^ 31) : zb_P LL xs 155 zb_p155_0 := zb_tt hLL (by decide) rfl zb_c155_0
set_option maxRecDepth 100000 in
theorem zb_i156_0 (hLL : LL < 2 ^ 31) : zb_P LL xs 156 zb_p156_0 := zb_tt hLL (by decide) rfl zb_c156_0
set_option maxRecDepth 100000 in
theorem zb_i158_0 (hLL : LL < 2 ^ 31) : zb_P LL xs 158 zb_p158_0 := zb_tt hLL (by decide) rfl zb_c158_0
set_option maxRecDepth 100000 in
theorem zb_i162_0 (hLL : LL < 2 ^ 31) : zb_P LL xs 162 zb_p162_0 := zb_tt hLL (by decide) rfl zb_c162_0
set_option maxRecDepth 100000 in
theorem zb_i163_0 (hLL : LL < 2 ^ 31) : zb_P LL xs 163 zb_p163_0 := zb_tt hLL (by decide) rfl zb_c163_0
set_option maxRecDepth 100000 in
theorem zb_i164_0 (hLL : LL < 2 ^ 31) : zb_P LL xs 164 zb_p164_0 := zb_tt hLL (by decide) rfl zb_c164_0
set_option maxRecDepth 100000 in
theorem zb_i165_0 (hLL : LL < 2 ^ 31) : zb_P LL xs 165 zb_p165_0 := zb_tt hLL (by decide) rfl zb_c165_0
set_option maxRecDepth 100000 in
theorem zb_i166_0 (hLL : LL < 2 ^ 31) : zb_P LL xs 166 zb_p166_0 := zb_tt hLL (by decide) rfl zb_c166_0
set_option maxRecDepth 100000 in
theorem zb_i168_0 (hLL : LL < 2 ^ 31) : zb_P LL xs 168 zb_p168_0 := zb_tt hLL (by decide) rfl zb_c168_0
set_option maxRecDepth 100000 in
theorem zb_i169_0 (hLL : LL < 2 ^ 31) : zb_P LL xs 169 zb_p169_0 := zb_tt hLL (by decide) rfl zb_c169_0
set_option maxRecDepth 100000 in
theorem zb_i170_0 (hLL : LL < 2 ^ 31) : zb_P LL xs 170 zb_p170_0 := zb_tt hLL (by decide) rfl zb_c170_0
set_option maxRecDepth 100000 in
theorem zb_i173_0 (hLL : LL < 2 ^ 31) : zb_P LL xs 173 zb_p173_0 := zb_tt hLL (by decide) rfl zb_c173_0
set_option maxRecDepth 100000 in
theorem zb_i174_0 (hLL : LL < 2 ^ 31) : zb_P LL xs 174 zb_p174_0 := zb_tt hLL (by decide) rfl zb_c174_0
set_option maxRecDepth 100000 in
theorem zb_i175_0 (hLL : LL < 2 ^ 31) : zb_P LL xs 175 zb_p175_0 := zb_tt hLL (by decide) rfl zb_c175_0
set_option maxRecDepth 100000 in
theorem zb_i177_0 (hLL : LL < 2 ^ 31) : zb_P LL xs 177 zb_p177_0 := zb_tt hLL (by decide) rfl zb_c177_0
set_option maxRecDepth 100000 in
theorem zb_i178_0 (hLL : LL < 2 ^ 31) : zb_P LL xs 178 zb_p178_0 := zb_tt hLL (by decide) rfl zb_c178_0
set_option maxRecDepth 100000 in
theorem zb_i180_0 (hLL : LL < 2 ^ 31) : zb_P LL xs 180 zb_p180_0 := zb_tt hLL (by decide) rfl zb_c180_0
set_option maxRecDepth 100000 in
theorem zb_i183_0 (hLL : LL < 2 ^ 31) : zb_P LL xs 183 zb_p183_0 := zb_tt hLL (by decide) rfl zb_c183_0
set_option maxRecDepth 100000 in
theorem zb_i184_0 (hLL : LL < 2 ^ 31) : zb_P LL xs 184 zb_p184_0 := zb_tt hLL (by decide) rfl zb_c184_0
set_option maxRecDepth 100000 in
theorem zb_i185_0 (hLL : LL < 2 ^ 31) : zb_P LL xs 185 zb_p185_0 := zb_tt hLL (by decide) rfl zb_c185_0
set_option maxRecDepth 100000 in
theorem zb_i186_0 (hLL : LL < 2 ^ 31) : zb_P LL xs 186 zb_p186_0 := zb_tt hLL (by decide) rfl zb_c186_0
set_option maxRecDepth 100000 in
theorem zb_i187_0 (hLL : LL < 2 ^ 31) : zb_P LL xs 187 zb_p187_0 := zb_tt hLL (by decide) rfl zb_c187_0
set_option maxRecDepth 100000 in
theorem zb_i189_0 (hLL : LL < 2 ^ 31) : zb_P LL xs 189 zb_p189_0 := zb_tt hLL (by decide) rfl zb_c189_0
set_option maxRecDepth 100000 in
theorem zb_i190_0 (hLL : LL < 2 ^ 31) : zb_P LL xs 190 zb_p190_0 := zb_tt hLL (by decide) rfl zb_c190_0
set_option maxRecDepth 100000 in
theorem zb_i191_0 (hLL : LL < 2 ^ 31) : zb_P LL xs 191 zb_p191_0 := ⟨rfl, zb_h191 hLL (an_and zb_cf1).1 (an_and zb_cf1).2 (an_and zb_cf2).1 (an_and zb_cf2).2⟩
set_option maxRecDepth 100000 in
theorem zb_i192_0 (hLL : LL < 2 ^ 31) : zb_P LL xs 192 zb_p192_0 := zb_tt hLL (by decide) rfl zb_c192_0
set_option maxRecDepth 100000 in
theorem zb_i193_0 (hLL : LL < 2 ^ 31) : zb_P LL xs 193 zb_p193_0 := zb_tt hLL (by decide) rfl zb_c193_0
set_option maxRecDepth 100000 in
theorem zb_i194_0 (hLL : LL < 2 ^ 31) : zb_P LL xs 194 zb_p194_0 := zb_tt hLL (by decide) rfl zb_c194_0
set_option maxRecDepth 100000 in
theorem zb_i195_0 (hLL : LL < 2 ^ 31) : zb_P LL xs 195 zb_p195_0 := zb_tt hLL (by decide) rfl zb_c195_0
set_option maxRecDepth 100000 in
theorem zb_i196_0 (hLL : LL < 2 ^ 31) : zb_P LL xs 196 zb_p196_0 := zb_tt hLL (by decide) rfl zb_c196_0
set_option maxRecDepth 100000 in
theorem zb_i197_0 (hLL : LL < 2 ^ 31) : zb_P LL xs 197 zb_p197_0 := zb_tt hLL (by decide) rfl zb_c197_0
set_option maxRecDepth 100000 in
theorem zb_i198_0 (hLL : LL < 2 ^ 31) : zb_P LL xs 198 zb_p198_0 := zb_tt hLL (by decide) rfl zb_c198_0
set_option maxRecDepth 100000 in
theorem zb_i199_0 (hLL : LL < 2 ^ 31) : zb_P LL xs 199 zb_p199_0 := zb_tt hLL (by decide) rfl zb_c199_0
set_option maxRecDepth 100000 in
theorem zb_i202_0 (hLL : LL < 2 ^ 31) : zb_P LL xs 202 zb_p202_0 := zb_tt hLL (by decide) rfl zb_c202_0
set_option maxRecDepth 100000 in
theorem zb_i203_0 (hLL : LL < 2 ^ 31) : zb_P LL xs 203 zb_p203_0 := zb_tt hLL (by decide) rfl zb_c203_0
set_option maxRecDepth 100000 in
theorem zb_i204_0 (hLL : LL < 2 ^ 31) : zb_P LL xs 204 zb_p204_0 := zb_tt hLL (by decide) rfl zb_c204_0
set_option maxRecDepth 100000 in
theorem zb_i205_0 (hLL : LL < 2 ^ 31) : zb_P LL xs 205 zb_p205_0 := zb_tt hLL (by decide) rfl zb_c205_0
set_option maxRecDepth 100000 in
theorem zb_i206_0 (hLL : LL < 2 ^ 31) : zb_P LL xs 206 zb_p206_0 := zb_tt hLL (by decide) rfl zb_c206_0
set_option maxRecDepth 100000 in
theorem zb_i209_0 (hLL : LL < 2 ^ 31) : zb_P LL xs 209 zb_p209_0 := zb_tt hLL (by decide) rfl zb_c209_0
set_option maxRecDepth 100000 in
theorem zb_i216_0 (hLL : LL < 2 ^ 31) : zb_P LL xs 216 zb_p216_0 := zb_tt hLL (by decide) rfl zb_c216_0
set_option maxRecDepth 100000 in
theorem zb_i217_0 (hLL : LL < 2 ^ 31) : zb_P LL xs 217 zb_p217_0 := zb_tt hLL (by decide) rfl zb_c217_0
set_option maxRecDepth 100000 in
theorem zb_i219_0 (hLL : LL < 2 ^ 31) : zb_P LL xs 219 zb_p219_0 := zb_tt hLL (by decide) rfl zb_c219_0
set_option maxRecDepth 100000 in
theorem zb_i226_0 (hLL : LL < 2 ^ 31) : zb_P LL xs 226 zb_p226_0 := zb_tt hLL (by decide) rfl zb_c226_0
set_option maxRecDepth 100000 in
theorem zb_i227_0 (hLL : LL < 2 ^ 31) : zb_P LL xs 227 zb_p227_0 := zb_tt hLL (by decide) rfl zb_c227_0
set_option maxRecDepth 100000 in
theorem zb_i229_0 (hLL : LL < 2 ^ 31) : zb_P LL xs 229 zb_p229_0 := zb_tt hLL (by decide) rfl zb_c229_0
set_option maxRecDepth 100000 in
theorem zb_iall (hLL : LL < 2 ^ 31) (b : Nat) (p : zb_Sp) (h : p ∈ zb_SP b) : zb_P LL xs b p := (zb_tr h).elim (fun q => have h := q.2; (zb_tr h).elim (fun q => have h := q.2; (zb_tr h).elim (fun q => have h := q.2; (zb_tr h).elim (fun q => have h := q.2; (zb_tr h).elim (fun q => have h := q.2; (zb_tr h).elim (fun q => have h := q.2; (zb_tr h).elim (fun q => have h := q.2; zb_lf (P := zb_P LL xs) q.1 h (zb_i4_0 hLL) (fun h => zb_no h)) (fun q => zb_no q.2)) (fun q => have h := q.2; (zb_tr h).elim (fun q => have h := q.2; (zb_tr h).elim (fun q => have h := q.2; zb_lf (P := zb_P LL xs) q.1 h (zb_i6_0 hLL) (fun h => zb_lf (P := zb_P LL xs) q.1 h (zb_i6_1 hLL) (fun h => zb_lf (P := zb_P LL xs) q.1 h (zb_i6_2 hLL) (fun h => zb_lf (P := zb_P LL xs) q.1 h (zb_i6_3 hLL) (fun h => zb_no h))))) (fun q => zb_no q.2)) (fun q => have h := q.2; (zb_tr h).elim (fun q => have h := q.2; zb_lf (P := zb_P LL xs) q.1 h (zb_i19_0 hLL) (fun h => zb_no h)) (fun q => zb_no q.2)))) (fun q => have h := q.2; (zb_tr h).elim (fun q => have h := q.2; (zb_tr h).elim (fun q => have h := q.2; (zb_tr h).elim (fun q => have h := q.2; zb_lf (P := zb_P LL xs) q.1 h (zb_i21_0 hLL) (fun h => zb_no h)) (fun q => zb_no q.2)) (fun q => have h := q.2; (zb_tr h).elim (fun q => have h := q.2; zb_lf (P := zb_P LL xs) q.1 h (zb_i22_0 hLL) (fun h => zb_no h)) (fun q => zb_no q.2))) (fun q => have h := q.2; (zb_tr h).elim (fun q => have h := q.2; (zb_tr h).elim (fun q => have h := q.2; zb_lf (P := zb_P LL xs) q.1 h (zb_i23_0 hLL) (fun h => zb_no h)) (fun q => zb_no q.2)) (fun q => have h := q.2; (zb_tr h).elim (fun q => have h := q.2; zb_lf (P := zb_P LL xs) q.1 h (zb_i26_0 hLL) (fun h => zb_no h)) (fun q => zb_no q.2))))) (fun q => have h := q.2; (zb_tr h).elim (fun q => have h := q.2; (zb_tr h).elim (fun q => have h := q.2; (zb_tr h).elim (fun q => have h := q.2; zb_lf (P := zb_P LL xs) q.1 h (zb_i32_0 hLL) (fun h => zb_no h)) (fun q => zb_no q.2)) (fun q => have h := q.2; (zb_tr h).elim (fun q => have h := q.2; (zb_tr h).elim (fun q => have h := q.2; zb_lf (P := zb_P LL xs) q.1 h (zb_i33_0 hLL) (fun h => zb_lf (P := zb_P LL xs) q.1 h (zb_i33_1 hLL) (fun h => zb_lf (P := zb_P LL xs) q.1 h (zb_i33_2 hLL) (fun h => zb_lf (P := zb_P LL xs) q.1 h (zb_i33_3 hLL) (fun h => zb_lf (P := zb_P LL xs) q.1 h (zb_i33_4 hLL) (fun h => zb_lf (P := zb_P LL xs) q.1 h (zb_i33_5 hLL) (fun h => zb_no h))))))) (fun q => zb_no q.2)) (fun q => have h := q.2; (zb_tr h).elim (fun q => have h := q.2; zb_lf (P := zb_P LL xs) q.1 h (zb_i34_0 hLL) (fun h => zb_no h)) (fun q => zb_no q.2)))) (fun q => have h := q.2; (zb_tr h).elim (fun q => have h := q.2; (zb_tr h).elim (fun q => have h := q.2; (zb_tr h).elim (fun q => have h := q.2; zb_lf (P := zb_P LL xs) q.1 h (zb_i36_0 hLL) (fun h => zb_no h)) (fun q => zb_no q.2)) (fun q => have h := q.2; (zb_tr h).elim (fun q => have h := q.2; zb_lf (P := zb_P LL xs) q.1 h (zb_i40_0 hLL) (fun h => zb_no h)) (fun q => zb_no q.2))) (fun q => have h := q.2; (zb_tr h).elim (fun q => have h := q.2; (zb_tr h).elim (fun q => have h := q.2; zb_lf (P := zb_P LL xs) q.1 h (zb_i47_0 hLL) (fun h => zb_no h)) (fun q => zb_no q.2)) (fun q => have h := q.2; (zb_tr h).elim (fun q => have h := q.2; zb_lf (P := zb_P LL xs) q.1 h (zb_i62_0 hLL) (fun h => zb_no h)) (fun q => zb_no q.2)))))) (fun q => have h := q.2; (zb_tr h).elim (fun q => have h := q.2; (zb_tr h).elim (fun q => have h := q.2; (zb_tr h).elim (fun q => have h := q.2; (zb_tr h).elim (fun q => have h := q.2; zb_lf (P := zb_P LL xs) q.1 h (zb_i72_0 hLL) (fun h => zb_no h)) (fun q => zb_no q.2)) (fun q => have h := q.2; (zb_tr h).elim (fun q => have h := q.2; (zb_tr h).elim (fun q => have h := q.2; zb_lf (P := zb_P LL xs) q.1 h (zb_i73_0 hLL) (fun h => zb_no h)) (fun q => zb_no q.2)) (fun q => have h := q.2; (zb_tr h).elim (fun q => have h := q.2; zb_lf (P := zb_P LL xs) q.1 h (zb_i76_0 hLL) (fun h => zb_no h)) (fun q => zb_no q.2)))) (fun q => have h := q.2; (zb_tr h).elim (fun q => have h := q.2; (zb_tr h).elim (fun q => have h := q.2; (zb_tr h).elim (fun q => have h := q.2; zb_lf (P := zb_P LL xs) q.1 h (zb_i77_0 hLL) (fun h => zb_no h)) (fun q => zb_no q.2)) (fun q => have h := q.2; (zb_tr h).elim (fun q => have h := q.2; zb_lf (P := zb_P LL xs) q.1 h (zb_i78_0 hLL) (fun h => zb_no h)) (fun q => zb_no q.2))) (fun q => have h := q.2; (zb_tr h).elim (fun q => have h := q.2; (zb_tr h).elim (fun q => have h := q.2; zb_lf (P := zb_P LL xs) q.1 h (zb_i79_0 hLL) (fun h => zb_no h)) (fun q => zb_no q.2)) (fun q => have h := q.2; (zb_tr h).elim (fun q => have h := q.2; zb_lf (P := zb_P LL xs) q.1 h (zb_i80_0 hLL) (fun h => zb_no h)) (fun q => zb_no q.2))))) (fun q => have h := q.2; (zb_tr h).elim (fun q => have h := q.2; (zb_tr h).elim (fun q => have h := q.2; (zb_tr h).elim (fun q => have h := q.2; (zb_tr h).elim (fun q => have h := q.2; zb_lf (P := zb_P LL xs) q.1 h (zb_i81_0 hLL) (fun h => zb_no h)) (fun q => zb_no q.2)) (fun q => have h := q.2; (zb_tr h).elim (fun q => have h := q.2; zb_lf (P := zb_P LL xs) q.1 h (zb_i83_0 hLL) (fun h => zb_no h)) (fun q => zb_no q.2))) (fun q => have h := q.2; (zb_tr h).elim (fun q => have h := q.2; (zb_tr h).elim (fun q => have h := q.2; zb_lf (P := zb_P LL xs) q.1 h (zb_i84_0 hLL) (fun h => zb_no h)) (fun q => zb_no q.2)) (fun q => have h := q.2; (zb_tr h).elim (fun q => have h := q.2; zb_lf (P := zb_P LL xs) q.1 h (zb_i85_0 hLL) (fun h => zb_no h)) (fun q => zb_no q.2)))) (fun q => have h := q.2; (zb_tr h).elim (fun q => have h := q.2; (zb_tr h).elim (fun q => have h := q.2; (zb_tr h).elim (fun q => have h := q.2; zb_lf (P := zb_P LL xs) q.1 h (zb_i86_0 hLL) (fun h => zb_no h)) (fun q => zb_no q.2)) (fun q => have h := q.2; (zb_tr h).elim (fun q => have h := q.2; zb_lf (P := zb_P LL xs) q.1 h (zb_i87_0 hLL) (fun h => zb_no h)) (fun q => zb_no q.2))) (fun q => have h := q.2; (zb_tr h).elim (fun q => have h := q.2; (zb_tr h).elim (fun q => have h := q.2; zb_lf (P := zb_P LL xs) q.1 h (zb_i88_0 hLL) (fun h => zb_no h)) (fun q => zb_no q.2)) (fun q => have h := q.2; (zb_tr h).elim (fun q => have h := q.2; zb_lf (P := zb_P LL xs) q.1 h (zb_i89_0 hLL) (fun h => zb_no h)) (fun q => zb_no q.2))))))) (fun q => have h := q.2; (zb_tr h).elim (fun q => have h := q.2; (zb_tr h).elim (fun q => have h := q.2; (zb_tr h).elim (fun q => have h := q.2; (zb_tr h).elim (fun q => have h := q.2; (zb_tr h).elim (fun q => have h := q.2; zb_lf (P := zb_P LL xs) q.1 h (zb_i90_0 hLL) (fun h => zb_no h)) (fun q => zb_no q.2)) (fun q => have h := q.2; (zb_tr h).elim (fun q => have h := q.2; (zb_tr h).elim (fun q => have h := q.2; zb_lf (P := zb_P LL xs) q.1 h (zb_i92_0 hLL) (fun h => zb_no h)) (fun q => zb_no q.2)) (fun q => have h := q.2; (zb_tr h).elim (fun q => have h := q.2; zb_lf (P := zb_P LL xs) q.1 h (zb_i93_0 hLL) (fun h => zb_no h)) (fun q => zb_no q.2)))) (fun q => have h := q.2; (zb_tr h).elim (fun q => have h := q.2; (zb_tr h).elim (fun q => have h := q.2; (zb_tr h).elim (fun q => have h := q.2; zb_lf (P := zb_P LL xs) q.1 h (zb_i97_0 hLL) (fun h => zb_no h)) (fun q => zb_no q.2)) (fun q => have h := q.2; (zb_tr h).elim (fun q => have h := q.2; zb_lf (P := zb_P LL xs) q.1 h (zb_i99_0 hLL) (fun h => zb_no h)) (fun q => zb_no q.2))) (fun q => have h := q.2; (zb_tr h).elim (fun q => have h := q.2; (zb_tr h).elim (fun q => have h := q.2; zb_lf (P := zb_P LL xs) q.1 h (zb_i101_0 hLL) (fun h => zb_no h)) (fun q => zb_no q.2)) (fun q => have h := q.2; (zb_tr h).elim (fun q => have h := q.2; zb_lf (P := zb_P LL xs) q.1 h (zb_i102_0 hLL) (fun h => zb_no h)) (fun q => zb_no q.2))))) (fun q => have h := q.2; (zb_tr h).elim (fun q => have h := q.2; (zb_tr h).elim (fun q => have h := q.2; (zb_tr h).elim (fun q => have h := q.2; zb_lf (P := zb_P LL xs) q.1 h (zb_i103_0 hLL) (fun h => zb_no h)) (fun q => zb_no q.2)) (fun q => have h := q.2; (zb_tr h).elim (fun q => have h := q.2; (zb_tr h).elim (fun q => have h := q.2; zb_lf (P := zb_P LL xs) q.1 h (zb_i104_0 hLL) (fun h => zb_no h)) (fun q => zb_no q.2)) (fun q => have h := q.2; (zb_tr h).elim (fun q => have h := q.2; zb_lf (P := zb_P LL xs) q.1 h (zb_i105_0 hLL) (fun h => zb_no h)) (fun q => zb_no q.2)))) (fun q => have h := q.2; (zb_tr h).elim (fun q => have h := q.2; (zb_tr h).elim (fun q => have h := q.2; (zb_tr h).elim (fun q => have h := q.2; zb_lf (P := zb_P LL xs) q.1 h (zb_i106_0 hLL) (fun h => zb_no h)) (fun q => zb_no q.2)) (fun q => have h := q.2; (zb_tr h).elim (fun q => have h := q.2; zb_lf (P := zb_P LL xs) q.1 h (zb_i107_0 hLL) (fun h => zb_no h)) (fun q => zb_no q.2))) (fun q => have h := q.2; (zb_tr h).elim (fun q => have h := q.2; (zb_tr h).elim (fun q => have h := q.2; zb_lf (P := zb_P LL xs) q.1 h (zb_i109_0 hLL) (fun h => zb_no h)) (fun q => zb_no q.2)) (fun q => have h := q.2; (zb_tr h).elim (fun q => have h := q.2; zb_lf (P := zb_P LL xs) q.1 h (zb_i110_0 hLL) (fun h => zb_no h)) (fun q => zb_no q.2)))))) (fun q => have h := q.2; (zb_tr h).elim (fun q => have h := q.2; (zb_tr h).elim (fun q => have h := q.2; (zb_tr h).elim (fun q => have h := q.2; (zb_tr h).elim (fun q => have h := q.2; zb_lf (P := zb_P LL xs) q.1 h (zb_i111_0 hLL) (fun h => zb_no h)) (fun q => zb_no q.2)) (fun q => have h := q.2; (zb_tr h).elim (fun q => have h := q.2; (zb_tr h).elim (fun q => have h := q.2; zb_lf (P := zb_P LL xs) q.1 h (zb_i112_0 hLL) (fun h => zb_no h)) (fun q => zb_no q.2)) (fun q => have h := q.2; (zb_tr h).elim (fun q => have h := q.2; zb_lf (P := zb_P LL xs) q.1 h (zb_i113_0 hLL) (fun h => zb_no h)) (fun q => zb_no q.2)))) (fun q => have h := q.2; (zb_tr h).elim (fun q => have h := q.2; (zb_tr h).elim (fun q => have h := q.2; (zb_tr h).elim (fun q => have h := q.2; zb_lf (P := zb_P LL xs) q.1 h (zb_i114_0 hLL) (fun h => zb_no h)) (fun q => zb_no q.2)) (fun q => have h := q.2; (zb_tr h).elim (fun q => have h := q.2; zb_lf (P := zb_P LL xs) q.1 h (zb_i115_0 hLL) (fun h => zb_no h)) (fun q => zb_no q.2))) (fun q => have h := q.2; (zb_tr h).elim (fun q => have h := q.2; (zb_tr h).elim (fun q => have h := q.2; zb_lf (P := zb_P LL xs) q.1 h (zb_i116_0 hLL) (fun h => zb_no h)) (fun q => zb_no q.2)) (fun q => have h := q.2; (zb_tr h).elim (fun q => have h := q.2; zb_lf (P := zb_P LL xs) q.1 h (zb_i117_0 hLL) (fun h => zb_no h)) (fun q => zb_no q.2))))) (fun q => have h := q.2; (zb_tr h).elim (fun q => have h := q.2; (zb_tr h).elim (fun q => have h := q.2; (zb_tr h).elim (fun q => have h := q.2; (zb_tr h).elim (fun q => have h := q.2; zb_lf (P := zb_P LL xs) q.1 h (zb_i118_0 hLL) (fun h => zb_no h)) (fun q => zb_no q.2)) (fun q => have h := q.2; (zb_tr h).elim (fun q => have h := q.2; zb_lf (P := zb_P LL xs) q.1 h (zb_i119_0 hLL) (fun h => zb_no h)) (fun q => zb_no q.2))) (fun q => have h := q.2; (zb_tr h).elim (fun q => have h := q.2; (zb_tr h).elim (fun q => have h := q.2; zb_lf (P := zb_P LL xs) q.1 h (zb_i120_0 hLL) (fun h => zb_no h)) (fun q => zb_no q.2)) (fun q => have h := q.2; (zb_tr h).elim (fun q => have h := q.2; zb_lf (P := zb_P LL xs) q.1 h (zb_i121_0 hLL) (fun h => zb_no h)) (fun q => zb_no q.2)))) (fun q => have h := q.2; (zb_tr h).elim (fun q => have h := q.2; (zb_tr h).elim (fun q => have h := q.2; (zb_tr h).elim (fun q => have h := q.2; zb_lf (P := zb_P LL xs) q.1 h (zb_i122_0 hLL) (fun h => zb_no h)) (fun q => zb_no q.2)) (fun q => have h := q.2; (zb_tr h).elim (fun q => have h := q.2; zb_lf (P := zb_P LL xs) q.1 h (zb_i123_0 hLL) (fun h => zb_no h)) (fun q => zb_no q.2))) (fun q => have h := q.2; (zb_tr h).elim (fun q => have h := q.2; (zb_tr h).elim (fun q => have h := q.2; zb_lf (P := zb_P LL xs) q.1 h (zb_i124_0 hLL) (fun h => zb_no h)) (fun q => zb_no q.2)) (fun q => have h := q.2; (zb_tr h).elim (fun q => have h := q.2; zb_lf (P := zb_P LL xs) q.1 h (zb_i125_0 hLL) (fun h => zb_no h)) (fun q => zb_no q.2)))))))) (fun q => have h := q.2; (zb_tr h).elim (fun q => have h := q.2; (zb_tr h).elim (fun q => have h := q.2; (zb_tr h).elim (fun q => have h := q.2; (zb_tr h).elim (fun q => have h := q.2; (zb_tr h).elim (fun q => have h := q.2; (zb_tr h).elim (fun q => have h := q.2; zb_lf (P := zb_P LL xs) q.1 h (zb_i126_0 hLL) (fun h => zb_no h)) (fun q => zb_no q.2)) (fun q => have h := q.2; (zb_tr h).elim (fun q => have h := q.2; (zb_tr h).elim (fun q => have h := q.2; zb_lf (P := zb_P LL xs) q.1 h (zb_i127_0 hLL) (fun h => zb_no h)) (fun q => zb_no q.2)) (fun q => have h := q.2; (zb_tr h).elim (fun q => have h := q.2; zb_lf (P := zb_P LL xs) q.1 h (zb_i128_0 hLL) (fun h => zb_no h)) (fun q => zb_no q.2)))) (fun q => have h := q.2; (zb_tr h).elim (fun q => have h := q.2; (zb_tr h).elim (fun q => have h := q.2; (zb_tr h).elim (fun q => have h := q.2; zb_lf (P := zb_P LL xs) q.1 h (zb_i133_0 hLL) (fun h => zb_no h)) (fun q => zb_no q.2)) (fun q => have h := q.2; (zb_tr h).elim (fun q => have h := q.2; zb_lf (P := zb_P LL xs) q.1 h (zb_i134_0 hLL) (fun h => zb_no h)) (fun q => zb_no q.2))) (fun q => have h := q.2; (zb_tr h).elim (fun q => have h := q.2; (zb_tr h).elim (fun q => have h := q.2; zb_lf (P := zb_P LL xs) q.1 h (zb_i139_0 hLL) (fun h => zb_no h)) (fun q => zb_no q.2)) (fun q => have h := q.2; (zb_tr h).elim (fun q => have h := q.2; zb_lf (P := zb_P LL xs) q.1 h (zb_i142_0 hLL) (fun h => zb_no h)) (fun q => zb_no q.2))))) (fun q => have h := q.2; (zb_tr h).elim (fun q => have h := q.2; (zb_tr h).elim (fun q => have h := q.2; (zb_tr h).elim (fun q => have h := q.2; zb_lf (P := zb_P LL xs) q.1 h (zb_i143_0 hLL) (fun h => zb_no h)) (fun q => zb_no q.2)) (fun q => have h := q.2; (zb_tr h).elim (fun q => have h := q.2; (zb_tr h).elim (fun q => have h := q.2; zb_lf (P := zb_P LL xs) q.1 h (zb_i144_0 hLL) (fun h => zb_no h)) (fun q => zb_no q.2)) (fun q => have h := q.2; (zb_tr h).elim (fun q => have h := q.2; zb_lf (P := zb_P LL xs) q.1 h (zb_i147_0 hLL) (fun h => zb_no h)) (fun q => zb_no q.2)))) (fun q => have h := q.2; (zb_tr h).elim (fun q => have h := q.2; (zb_tr h).elim (fun q => have h := q.2; (zb_tr h).elim (fun q => have h := q.2; zb_lf (P := zb_P LL xs) q.1 h (zb_i149_0 hLL) (fun h => zb_no h)) (fun q => zb_no q.2)) (fun q => have h := q.2; (zb_tr h).elim (fun q => have h := q.2; zb_lf (P := zb_P LL xs) q.1 h (zb_i152_0 hLL) (fun h => zb_no h)) (fun q => zb_no q.2))) (fun q => have h := q.2; (zb_tr h).elim (fun q => have h := q.2; (zb_tr h).elim (fun q => have h := q.2; zb_lf (P := zb_P LL xs) q.1 h (zb_i153_0 hLL) (fun h => zb_no h)) (fun q => zb_no q.2)) (fun q => have h := q.2; (zb_tr h).elim (fun q => have h := q.2; zb_lf (P := zb_P LL xs) q.1 h (zb_i155_0 hLL) (fun h => zb_no h)) (fun q => zb_no q.2)))))) (fun q => have h := q.2; (zb_tr h).elim (fun q => have h := q.2; (zb_tr h).elim (fun q => have h := q.2; (zb_tr h).elim (fun q => have h := q.2; (zb_tr h).elim (fun q => have h := q.2; zb_lf (P := zb_P LL xs) q.1 h (zb_i156_0 hLL) (fun h => zb_no h)) (fun q => zb_no q.2)) (fun q => have h := q.2; (zb_tr h).elim (fun q => have h := q.2; (zb_tr h).elim (fun q => have h := q.2; zb_lf (P := zb_P LL xs) q.1 h (zb_i158_0 hLL) (fun h => zb_no h)) (fun q => zb_no q.2)) (fun q => have h := q.2; (zb_tr h).elim (fun q => have h := q.2; zb_lf (P := zb_P LL xs) q.1 h (zb_i162_0 hLL) (fun h => zb_no h)) (fun q => zb_no q.2)))) (fun q => have h := q.2; (zb_tr h).elim (fun q => have h := q.2; (zb_tr h).elim (fun q => have h := q.2; (zb_tr h).elim (fun q => have h := q.2; zb_lf (P := zb_P LL xs) q.1 h (zb_i163_0 hLL) (fun h => zb_no h)) (fun q => zb_no q.2)) (fun q => have h := q.2; (zb_tr h).elim (fun q => have h := q.2; zb_lf (P := zb_P LL xs) q.1 h (zb_i164_0 hLL) (fun h => zb_no h)) (fun q => zb_no q.2))) (fun q => have h := q.2; (zb_tr h).elim (fun q => have h := q.2; (zb_tr h).elim (fun q => have h := q.2; zb_lf (P := zb_P LL xs) q.1 h (zb_i165_0 hLL) (fun h => zb_no h)) (fun q => zb_no q.2)) (fun q => have h := q.2; (zb_tr h).elim (fun q => have h := q.2; zb_lf (P := zb_P LL xs) q.1 h (zb_i166_0 hLL) (fun h => zb_no h)) (fun q => zb_no q.2))))) (fun q => have h := q.2; (zb_tr h).elim (fun q => have h := q.2; (zb_tr h).elim (fun q => have h := q.2; (zb_tr h).elim (fun q => have h := q.2; (zb_tr h).elim (fun q => have h := q.2; zb_lf (P := zb_P LL xs) q.1 h (zb_i168_0 hLL) (fun h => zb_no h)) (fun q => zb_no q.2)) (fun q => have h := q.2; (zb_tr h).elim (fun q => have h := q.2; zb_lf (P := zb_P LL xs) q.1 h (zb_i169_0 hLL) (fun h => zb_no h)) (fun q => zb_no q.2))) (fun q => have h := q.2; (zb_tr h).elim (fun q => have h := q.2; (zb_tr h).elim (fun q => have h := q.2; zb_lf (P := zb_P LL xs) q.1 h (zb_i170_0 hLL) (fun h => zb_no h)) (fun q => zb_no q.2)) (fun q => have h := q.2; (zb_tr h).elim (fun q => have h := q.2; zb_lf (P := zb_P LL xs) q.1 h (zb_i173_0 hLL) (fun h => zb_no h)) (fun q => zb_no q.2)))) (fun q => have h := q.2; (zb_tr h).elim (fun q => have h := q.2; (zb_tr h).elim (fun q => have h := q.2; (zb_tr h).elim (fun q => have h := q.2; zb_lf (P := zb_P LL xs) q.1 h (zb_i174_0 hLL) (fun h => zb_no h)) (fun q => zb_no q.2)) (fun q => have h := q.2; (zb_tr h).elim (fun q => have h := q.2; zb_lf (P := zb_P LL xs) q.1 h (zb_i175_0 hLL) (fun h => zb_no h)) (fun q => zb_no q.2))) (fun q => have h := q.2; (zb_tr h).elim (fun q => have h := q.2; (zb_tr h).elim (fun q => have h := q.2; zb_lf (P := zb_P LL xs) q.1 h (zb_i177_0 hLL) (fun h => zb_no h)) (fun q => zb_no q.2)) (fun q => have h := q.2; (zb_tr h).elim (fun q => have h := q.2; zb_lf (P := zb_P LL xs) q.1 h (zb_i178_0 hLL) (fun h => zb_no h)) (fun q => zb_no q.2))))))) (fun q => have h := q.2; (zb_tr h).elim (fun q => have h := q.2; (zb_tr h).elim (fun q => have h := q.2; (zb_tr h).elim (fun q => have h := q.2; (zb_tr h).elim (fun q => have h := q.2; (zb_tr h).elim (fun q => have h := q.2; zb_lf (P := zb_P LL xs) q.1 h (zb_i180_0 hLL) (fun h => zb_no h)) (fun q => zb_no q.2)) (fun q => have h := q.2; (zb_tr h).elim (fun q => have h := q.2; (zb_tr h).elim (fun q => have h := q.2; zb_lf (P := zb_P LL xs) q.1 h (zb_i183_0 hLL) (fun h => zb_no h)) (fun q => zb_no q.2)) (fun q => have h := q.2; (zb_tr h).elim (fun q => have h := q.2; zb_lf (P := zb_P LL xs) q.1 h (zb_i184_0 hLL) (fun h => zb_no h)) (fun q => zb_no q.2)))) (fun q => have h := q.2; (zb_tr h).elim (fun q => have h := q.2; (zb_tr h).elim (fun q => have h := q.2; (zb_tr h).elim (fun q => have h := q.2; zb_lf (P := zb_P LL xs) q.1 h (zb_i185_0 hLL) (fun h => zb_no h)) (fun q => zb_no q.2)) (fun q => have h := q.2; (zb_tr h).elim (fun q => have h := q.2; zb_lf (P := zb_P LL xs) q.1 h (zb_i186_0 hLL) (fun h => zb_no h)) (fun q => zb_no q.2))) (fun q => have h := q.2; (zb_tr h).elim (fun q => have h := q.2; (zb_tr h).elim (fun q => have h := q.2; zb_lf (P := zb_P LL xs) q.1 h (zb_i187_0 hLL) (fun h => zb_no h)) (fun q => zb_no q.2)) (fun q => have h := q.2; (zb_tr h).elim (fun q => have h := q.2; zb_lf (P := zb_P LL xs) q.1 h (zb_i189_0 hLL) (fun h => zb_no h)) (fun q => zb_no q.2))))) (fun q => have h := q.2; (zb_tr h).elim (fun q => have h := q.2; (zb_tr h).elim (fun q => have h := q.2; (zb_tr h).elim (fun q => have h := q.2; zb_lf (P := zb_P LL xs) q.1 h (zb_i190_0 hLL) (fun h => zb_no h)) (fun q => zb_no q.2)) (fun q => have h := q.2; (zb_tr h).elim (fun q => have h := q.2; (zb_tr h).elim (fun q => have h := q.2; zb_lf (P := zb_P LL xs) q.1 h (zb_i191_0 hLL) (fun h => zb_no h)) (fun q => zb_no q.2)) (fun q => have h := q.2; (zb_tr h).elim (fun q => have h := q.2; zb_lf (P := zb_P LL xs) q.1 h (zb_i192_0 hLL) (fun h => zb_no h)) (fun q => zb_no q.2)))) (fun q => have h := q.2; (zb_tr h).elim (fun q => have h := q.2; (zb_tr h).elim (fun q => have h := q.2; (zb_tr h).elim (fun q => have h := q.2; zb_lf (P := zb_P LL xs) q.1 h (zb_i193_0 hLL) (fun h => zb_no h)) (fun q => zb_no q.2)) (fun q => have h := q.2; (zb_tr h).elim (fun q => have h := q.2; zb_lf (P := zb_P LL xs) q.1 h (zb_i194_0 hLL) (fun h => zb_no h)) (fun q => zb_no q.2))) (fun q => have h := q.2; (zb_tr h).elim (fun q => have h := q.2; (zb_tr h).elim (fun q => have h := q.2; zb_lf (P := zb_P LL xs) q.1 h (zb_i195_0 hLL) (fun h => zb_no h)) (fun q => zb_no q.2)) (fun q => have h := q.2; (zb_tr h).elim (fun q => have h := q.2; zb_lf (P := zb_P LL xs) q.1 h (zb_i196_0 hLL) (fun h => zb_no h)) (fun q => zb_no q.2)))))) (fun q => have h := q.2; (zb_tr h).elim (fun q => have h := q.2; (zb_tr h).elim (fun q => have h := q.2; (zb_tr h).elim (fun q => have h := q.2; (zb_tr h).elim (fun q => have h := q.2; zb_lf (P := zb_P LL xs) q.1 h (zb_i197_0 hLL) (fun h => zb_no h)) (fun q => zb_no q.2)) (fun q => have h := q.2; (zb_tr h).elim (fun q => have h := q.2; (zb_tr h).elim (fun q => have h := q.2; zb_lf (P := zb_P LL xs) q.1 h (zb_i198_0 hLL) (fun h => zb_no h)) (fun q => zb_no q.2)) (fun q => have h := q.2; (zb_tr h).elim (fun q => have h := q.2; zb_lf (P := zb_P LL xs) q.1 h (zb_i199_0 hLL) (fun h => zb_no h)) (fun q => zb_no q.2)))) (fun q => have h := q.2; (zb_tr h).elim (fun q => have h := q.2; (zb_tr h).elim (fun q => have h := q.2; (zb_tr h).elim (fun q => have h := q.2; zb_lf (P := zb_P LL xs) q.1 h (zb_i202_0 hLL) (fun h => zb_no h)) (fun q => zb_no q.2)) (fun q => have h := q.2; (zb_tr h).elim (fun q => have h := q.2; zb_lf (P := zb_P LL xs) q.1 h (zb_i203_0 hLL) (fun h => zb_no h)) (fun q => zb_no q.2))) (fun q => have h := q.2; (zb_tr h).elim (fun q => have h := q.2; (zb_tr h).elim (fun q => have h := q.2; zb_lf (P := zb_P LL xs) q.1 h (zb_i204_0 hLL) (fun h => zb_no h)) (fun q => zb_no q.2)) (fun q => have h := q.2; (zb_tr h).elim (fun q => have h := q.2; zb_lf (P := zb_P LL xs) q.1 h (zb_i205_0 hLL) (fun h => zb_no h)) (fun q => zb_no q.2))))) (fun q => have h := q.2; (zb_tr h).elim (fun q => have h := q.2; (zb_tr h).elim (fun q => have h := q.2; (zb_tr h).elim (fun q => have h := q.2; (zb_tr h).elim (fun q => have h := q.2; zb_lf (P := zb_P LL xs) q.1 h (zb_i206_0 hLL) (fun h => zb_no h)) (fun q => zb_no q.2)) (fun q => have h := q.2; (zb_tr h).elim (fun q => have h := q.2; zb_lf (P := zb_P LL xs) q.1 h (zb_i209_0 hLL) (fun h => zb_no h)) (fun q => zb_no q.2))) (fun q => have h := q.2; (zb_tr h).elim (fun q => have h := q.2; (zb_tr h).elim (fun q => have h := q.2; zb_lf (P := zb_P LL xs) q.1 h (zb_i216_0 hLL) (fun h => zb_no h)) (fun q => zb_no q.2)) (fun q => have h := q.2; (zb_tr h).elim (fun q => have h := q.2; zb_lf (P := zb_P LL xs) q.1 h (zb_i217_0 hLL) (fun h => zb_no h)) (fun q => zb_no q.2)))) (fun q => have h := q.2; (zb_tr h).elim (fun q => have h := q.2; (zb_tr h).elim (fun q => have h := q.2; (zb_tr h).elim (fun q => have h := q.2; zb_lf (P := zb_P LL xs) q.1 h (zb_i219_0 hLL) (fun h => zb_no h)) (fun q => zb_no q.2)) (fun q => have h := q.2; (zb_tr h).elim (fun q => have h := q.2; zb_lf (P := zb_P LL xs) q.1 h (zb_i226_0 hLL) (fun h => zb_no h)) (fun q => zb_no q.2))) (fun q => have h := q.2; (zb_tr h).elim (fun q => have h := q.2; (zb_tr h).elim (fun q => have h := q.2; zb_lf (P := zb_P LL xs) q.1 h (zb_i227_0 hLL) (fun h => zb_no h)) (fun q => zb_no q.2)) (fun q => have h := q.2; (zb_tr h).elim (fun q => have h := q.2; zb_lf (P := zb_P LL xs) q.1 h (zb_i229_0 hLL) (fun h => zb_no h)) (fun q => zb_no q.2))))))))
theorem zb_sums (hLL : LL < 2 ^ 31) : ∀ d b p, p ∈ zb_SP b → zb_Sum zb_tT 90 (rf_SA LL xs) rf_ms zb_J0 b p d := zb_all (ns := 66) (fun b p hp => zb_iall hLL b p hp)
end
