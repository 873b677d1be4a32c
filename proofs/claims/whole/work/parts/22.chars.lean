/-! the String constants' bytes among the premises, by their places -/
def FL : List Cond := flatC (Jvm.Cond.and given_1 narrow_1)
def tmS (i : Nat) : Term := .string (rn ((strS.getD i (0, 0, "")).1)) ((strS.getD i (0, 0, "")).2.1)
theorem fa (k : Nat) {w : Cond} (h : FL[k]? = some w) : w ∈ FL := List.mem_of_getElem? h
set_option maxRecDepth 100000 in
theorem chr_0_0 : Cond.eq (.elem (.field (tmS 0) "java/lang/String" "value" "[B") (.int (Int32.ofNat 0))) (.int ((bytS.getD 0 []).getD 0 0)) ∈ FL := fa 87 rfl
set_option maxRecDepth 100000 in
theorem chr_0_1 : Cond.eq (.elem (.field (tmS 0) "java/lang/String" "value" "[B") (.int (Int32.ofNat 1))) (.int ((bytS.getD 0 []).getD 1 0)) ∈ FL := fa 88 rfl
set_option maxRecDepth 100000 in
theorem chr_0_2 : Cond.eq (.elem (.field (tmS 0) "java/lang/String" "value" "[B") (.int (Int32.ofNat 2))) (.int ((bytS.getD 0 []).getD 2 0)) ∈ FL := fa 89 rfl
set_option maxRecDepth 100000 in
theorem chr_0_3 : Cond.eq (.elem (.field (tmS 0) "java/lang/String" "value" "[B") (.int (Int32.ofNat 3))) (.int ((bytS.getD 0 []).getD 3 0)) ∈ FL := fa 90 rfl
set_option maxRecDepth 100000 in
theorem chr_0_4 : Cond.eq (.elem (.field (tmS 0) "java/lang/String" "value" "[B") (.int (Int32.ofNat 4))) (.int ((bytS.getD 0 []).getD 4 0)) ∈ FL := fa 91 rfl
set_option maxRecDepth 100000 in
theorem chr_0_5 : Cond.eq (.elem (.field (tmS 0) "java/lang/String" "value" "[B") (.int (Int32.ofNat 5))) (.int ((bytS.getD 0 []).getD 5 0)) ∈ FL := fa 92 rfl
set_option maxRecDepth 100000 in
theorem chr_0_6 : Cond.eq (.elem (.field (tmS 0) "java/lang/String" "value" "[B") (.int (Int32.ofNat 6))) (.int ((bytS.getD 0 []).getD 6 0)) ∈ FL := fa 93 rfl
set_option maxRecDepth 100000 in
theorem chr_0_7 : Cond.eq (.elem (.field (tmS 0) "java/lang/String" "value" "[B") (.int (Int32.ofNat 7))) (.int ((bytS.getD 0 []).getD 7 0)) ∈ FL := fa 94 rfl
set_option maxRecDepth 100000 in
theorem chr_0_8 : Cond.eq (.elem (.field (tmS 0) "java/lang/String" "value" "[B") (.int (Int32.ofNat 8))) (.int ((bytS.getD 0 []).getD 8 0)) ∈ FL := fa 95 rfl
set_option maxRecDepth 100000 in
theorem chr_0_9 : Cond.eq (.elem (.field (tmS 0) "java/lang/String" "value" "[B") (.int (Int32.ofNat 9))) (.int ((bytS.getD 0 []).getD 9 0)) ∈ FL := fa 96 rfl
set_option maxRecDepth 100000 in
theorem chr_0_10 : Cond.eq (.elem (.field (tmS 0) "java/lang/String" "value" "[B") (.int (Int32.ofNat 10))) (.int ((bytS.getD 0 []).getD 10 0)) ∈ FL := fa 97 rfl
set_option maxRecDepth 100000 in
theorem chr_0_11 : Cond.eq (.elem (.field (tmS 0) "java/lang/String" "value" "[B") (.int (Int32.ofNat 11))) (.int ((bytS.getD 0 []).getD 11 0)) ∈ FL := fa 98 rfl
set_option maxRecDepth 100000 in
theorem chr_0_12 : Cond.eq (.elem (.field (tmS 0) "java/lang/String" "value" "[B") (.int (Int32.ofNat 12))) (.int ((bytS.getD 0 []).getD 12 0)) ∈ FL := fa 99 rfl
set_option maxRecDepth 100000 in
theorem chr_0_13 : Cond.eq (.elem (.field (tmS 0) "java/lang/String" "value" "[B") (.int (Int32.ofNat 13))) (.int ((bytS.getD 0 []).getD 13 0)) ∈ FL := fa 100 rfl
set_option maxRecDepth 100000 in
theorem chr_0_14 : Cond.eq (.elem (.field (tmS 0) "java/lang/String" "value" "[B") (.int (Int32.ofNat 14))) (.int ((bytS.getD 0 []).getD 14 0)) ∈ FL := fa 101 rfl
set_option maxRecDepth 100000 in
theorem chr_0_15 : Cond.eq (.elem (.field (tmS 0) "java/lang/String" "value" "[B") (.int (Int32.ofNat 15))) (.int ((bytS.getD 0 []).getD 15 0)) ∈ FL := fa 102 rfl
set_option maxRecDepth 100000 in
theorem chr_0_16 : Cond.eq (.elem (.field (tmS 0) "java/lang/String" "value" "[B") (.int (Int32.ofNat 16))) (.int ((bytS.getD 0 []).getD 16 0)) ∈ FL := fa 103 rfl
set_option maxRecDepth 100000 in
theorem chr_0_17 : Cond.eq (.elem (.field (tmS 0) "java/lang/String" "value" "[B") (.int (Int32.ofNat 17))) (.int ((bytS.getD 0 []).getD 17 0)) ∈ FL := fa 104 rfl
set_option maxRecDepth 100000 in
theorem chr_0_18 : Cond.eq (.elem (.field (tmS 0) "java/lang/String" "value" "[B") (.int (Int32.ofNat 18))) (.int ((bytS.getD 0 []).getD 18 0)) ∈ FL := fa 105 rfl
set_option maxRecDepth 100000 in
theorem chr_0_19 : Cond.eq (.elem (.field (tmS 0) "java/lang/String" "value" "[B") (.int (Int32.ofNat 19))) (.int ((bytS.getD 0 []).getD 19 0)) ∈ FL := fa 106 rfl
set_option maxRecDepth 100000 in
theorem chr_0_20 : Cond.eq (.elem (.field (tmS 0) "java/lang/String" "value" "[B") (.int (Int32.ofNat 20))) (.int ((bytS.getD 0 []).getD 20 0)) ∈ FL := fa 107 rfl
set_option maxRecDepth 100000 in
theorem chr_0_21 : Cond.eq (.elem (.field (tmS 0) "java/lang/String" "value" "[B") (.int (Int32.ofNat 21))) (.int ((bytS.getD 0 []).getD 21 0)) ∈ FL := fa 108 rfl
set_option maxRecDepth 100000 in
theorem chr_0_22 : Cond.eq (.elem (.field (tmS 0) "java/lang/String" "value" "[B") (.int (Int32.ofNat 22))) (.int ((bytS.getD 0 []).getD 22 0)) ∈ FL := fa 109 rfl
theorem chr_0 : ∀ j, j < 23 → Cond.eq (.elem (.field (tmS 0) "java/lang/String" "value" "[B") (.int (Int32.ofNat j))) (.int ((bytS.getD 0 []).getD j 0)) ∈ FL := by
  intro j hj
  match j, hj with
  | 0, _ => exact chr_0_0
  | 1, _ => exact chr_0_1
  | 2, _ => exact chr_0_2
  | 3, _ => exact chr_0_3
  | 4, _ => exact chr_0_4
  | 5, _ => exact chr_0_5
  | 6, _ => exact chr_0_6
  | 7, _ => exact chr_0_7
  | 8, _ => exact chr_0_8
  | 9, _ => exact chr_0_9
  | 10, _ => exact chr_0_10
  | 11, _ => exact chr_0_11
  | 12, _ => exact chr_0_12
  | 13, _ => exact chr_0_13
  | 14, _ => exact chr_0_14
  | 15, _ => exact chr_0_15
  | 16, _ => exact chr_0_16
  | 17, _ => exact chr_0_17
  | 18, _ => exact chr_0_18
  | 19, _ => exact chr_0_19
  | 20, _ => exact chr_0_20
  | 21, _ => exact chr_0_21
  | 22, _ => exact chr_0_22
  | n + 23, h => exact absurd h (by omega)
set_option maxRecDepth 100000 in
theorem chr_1_0 : Cond.eq (.elem (.field (tmS 1) "java/lang/String" "value" "[B") (.int (Int32.ofNat 0))) (.int ((bytS.getD 1 []).getD 0 0)) ∈ FL := fa 115 rfl
set_option maxRecDepth 100000 in
theorem chr_1_1 : Cond.eq (.elem (.field (tmS 1) "java/lang/String" "value" "[B") (.int (Int32.ofNat 1))) (.int ((bytS.getD 1 []).getD 1 0)) ∈ FL := fa 116 rfl
set_option maxRecDepth 100000 in
theorem chr_1_2 : Cond.eq (.elem (.field (tmS 1) "java/lang/String" "value" "[B") (.int (Int32.ofNat 2))) (.int ((bytS.getD 1 []).getD 2 0)) ∈ FL := fa 117 rfl
set_option maxRecDepth 100000 in
theorem chr_1_3 : Cond.eq (.elem (.field (tmS 1) "java/lang/String" "value" "[B") (.int (Int32.ofNat 3))) (.int ((bytS.getD 1 []).getD 3 0)) ∈ FL := fa 118 rfl
set_option maxRecDepth 100000 in
theorem chr_1_4 : Cond.eq (.elem (.field (tmS 1) "java/lang/String" "value" "[B") (.int (Int32.ofNat 4))) (.int ((bytS.getD 1 []).getD 4 0)) ∈ FL := fa 119 rfl
set_option maxRecDepth 100000 in
theorem chr_1_5 : Cond.eq (.elem (.field (tmS 1) "java/lang/String" "value" "[B") (.int (Int32.ofNat 5))) (.int ((bytS.getD 1 []).getD 5 0)) ∈ FL := fa 120 rfl
set_option maxRecDepth 100000 in
theorem chr_1_6 : Cond.eq (.elem (.field (tmS 1) "java/lang/String" "value" "[B") (.int (Int32.ofNat 6))) (.int ((bytS.getD 1 []).getD 6 0)) ∈ FL := fa 121 rfl
set_option maxRecDepth 100000 in
theorem chr_1_7 : Cond.eq (.elem (.field (tmS 1) "java/lang/String" "value" "[B") (.int (Int32.ofNat 7))) (.int ((bytS.getD 1 []).getD 7 0)) ∈ FL := fa 122 rfl
set_option maxRecDepth 100000 in
theorem chr_1_8 : Cond.eq (.elem (.field (tmS 1) "java/lang/String" "value" "[B") (.int (Int32.ofNat 8))) (.int ((bytS.getD 1 []).getD 8 0)) ∈ FL := fa 123 rfl
set_option maxRecDepth 100000 in
theorem chr_1_9 : Cond.eq (.elem (.field (tmS 1) "java/lang/String" "value" "[B") (.int (Int32.ofNat 9))) (.int ((bytS.getD 1 []).getD 9 0)) ∈ FL := fa 124 rfl
set_option maxRecDepth 100000 in
theorem chr_1_10 : Cond.eq (.elem (.field (tmS 1) "java/lang/String" "value" "[B") (.int (Int32.ofNat 10))) (.int ((bytS.getD 1 []).getD 10 0)) ∈ FL := fa 125 rfl
set_option maxRecDepth 100000 in
theorem chr_1_11 : Cond.eq (.elem (.field (tmS 1) "java/lang/String" "value" "[B") (.int (Int32.ofNat 11))) (.int ((bytS.getD 1 []).getD 11 0)) ∈ FL := fa 126 rfl
set_option maxRecDepth 100000 in
theorem chr_1_12 : Cond.eq (.elem (.field (tmS 1) "java/lang/String" "value" "[B") (.int (Int32.ofNat 12))) (.int ((bytS.getD 1 []).getD 12 0)) ∈ FL := fa 127 rfl
set_option maxRecDepth 100000 in
theorem chr_1_13 : Cond.eq (.elem (.field (tmS 1) "java/lang/String" "value" "[B") (.int (Int32.ofNat 13))) (.int ((bytS.getD 1 []).getD 13 0)) ∈ FL := fa 128 rfl
set_option maxRecDepth 100000 in
theorem chr_1_14 : Cond.eq (.elem (.field (tmS 1) "java/lang/String" "value" "[B") (.int (Int32.ofNat 14))) (.int ((bytS.getD 1 []).getD 14 0)) ∈ FL := fa 129 rfl
set_option maxRecDepth 100000 in
theorem chr_1_15 : Cond.eq (.elem (.field (tmS 1) "java/lang/String" "value" "[B") (.int (Int32.ofNat 15))) (.int ((bytS.getD 1 []).getD 15 0)) ∈ FL := fa 130 rfl
set_option maxRecDepth 100000 in
theorem chr_1_16 : Cond.eq (.elem (.field (tmS 1) "java/lang/String" "value" "[B") (.int (Int32.ofNat 16))) (.int ((bytS.getD 1 []).getD 16 0)) ∈ FL := fa 131 rfl
set_option maxRecDepth 100000 in
theorem chr_1_17 : Cond.eq (.elem (.field (tmS 1) "java/lang/String" "value" "[B") (.int (Int32.ofNat 17))) (.int ((bytS.getD 1 []).getD 17 0)) ∈ FL := fa 132 rfl
set_option maxRecDepth 100000 in
theorem chr_1_18 : Cond.eq (.elem (.field (tmS 1) "java/lang/String" "value" "[B") (.int (Int32.ofNat 18))) (.int ((bytS.getD 1 []).getD 18 0)) ∈ FL := fa 133 rfl
set_option maxRecDepth 100000 in
theorem chr_1_19 : Cond.eq (.elem (.field (tmS 1) "java/lang/String" "value" "[B") (.int (Int32.ofNat 19))) (.int ((bytS.getD 1 []).getD 19 0)) ∈ FL := fa 134 rfl
set_option maxRecDepth 100000 in
theorem chr_1_20 : Cond.eq (.elem (.field (tmS 1) "java/lang/String" "value" "[B") (.int (Int32.ofNat 20))) (.int ((bytS.getD 1 []).getD 20 0)) ∈ FL := fa 135 rfl
set_option maxRecDepth 100000 in
theorem chr_1_21 : Cond.eq (.elem (.field (tmS 1) "java/lang/String" "value" "[B") (.int (Int32.ofNat 21))) (.int ((bytS.getD 1 []).getD 21 0)) ∈ FL := fa 136 rfl
set_option maxRecDepth 100000 in
theorem chr_1_22 : Cond.eq (.elem (.field (tmS 1) "java/lang/String" "value" "[B") (.int (Int32.ofNat 22))) (.int ((bytS.getD 1 []).getD 22 0)) ∈ FL := fa 137 rfl
set_option maxRecDepth 100000 in
theorem chr_1_23 : Cond.eq (.elem (.field (tmS 1) "java/lang/String" "value" "[B") (.int (Int32.ofNat 23))) (.int ((bytS.getD 1 []).getD 23 0)) ∈ FL := fa 138 rfl
set_option maxRecDepth 100000 in
theorem chr_1_24 : Cond.eq (.elem (.field (tmS 1) "java/lang/String" "value" "[B") (.int (Int32.ofNat 24))) (.int ((bytS.getD 1 []).getD 24 0)) ∈ FL := fa 139 rfl
set_option maxRecDepth 100000 in
theorem chr_1_25 : Cond.eq (.elem (.field (tmS 1) "java/lang/String" "value" "[B") (.int (Int32.ofNat 25))) (.int ((bytS.getD 1 []).getD 25 0)) ∈ FL := fa 140 rfl
set_option maxRecDepth 100000 in
theorem chr_1_26 : Cond.eq (.elem (.field (tmS 1) "java/lang/String" "value" "[B") (.int (Int32.ofNat 26))) (.int ((bytS.getD 1 []).getD 26 0)) ∈ FL := fa 141 rfl
set_option maxRecDepth 100000 in
theorem chr_1_27 : Cond.eq (.elem (.field (tmS 1) "java/lang/String" "value" "[B") (.int (Int32.ofNat 27))) (.int ((bytS.getD 1 []).getD 27 0)) ∈ FL := fa 142 rfl
set_option maxRecDepth 100000 in
theorem chr_1_28 : Cond.eq (.elem (.field (tmS 1) "java/lang/String" "value" "[B") (.int (Int32.ofNat 28))) (.int ((bytS.getD 1 []).getD 28 0)) ∈ FL := fa 143 rfl
set_option maxRecDepth 100000 in
theorem chr_1_29 : Cond.eq (.elem (.field (tmS 1) "java/lang/String" "value" "[B") (.int (Int32.ofNat 29))) (.int ((bytS.getD 1 []).getD 29 0)) ∈ FL := fa 144 rfl
set_option maxRecDepth 100000 in
theorem chr_1_30 : Cond.eq (.elem (.field (tmS 1) "java/lang/String" "value" "[B") (.int (Int32.ofNat 30))) (.int ((bytS.getD 1 []).getD 30 0)) ∈ FL := fa 145 rfl
set_option maxRecDepth 100000 in
theorem chr_1_31 : Cond.eq (.elem (.field (tmS 1) "java/lang/String" "value" "[B") (.int (Int32.ofNat 31))) (.int ((bytS.getD 1 []).getD 31 0)) ∈ FL := fa 146 rfl
set_option maxRecDepth 100000 in
theorem chr_1_32 : Cond.eq (.elem (.field (tmS 1) "java/lang/String" "value" "[B") (.int (Int32.ofNat 32))) (.int ((bytS.getD 1 []).getD 32 0)) ∈ FL := fa 147 rfl
set_option maxRecDepth 100000 in
theorem chr_1_33 : Cond.eq (.elem (.field (tmS 1) "java/lang/String" "value" "[B") (.int (Int32.ofNat 33))) (.int ((bytS.getD 1 []).getD 33 0)) ∈ FL := fa 148 rfl
set_option maxRecDepth 100000 in
theorem chr_1_34 : Cond.eq (.elem (.field (tmS 1) "java/lang/String" "value" "[B") (.int (Int32.ofNat 34))) (.int ((bytS.getD 1 []).getD 34 0)) ∈ FL := fa 149 rfl
set_option maxRecDepth 100000 in
theorem chr_1_35 : Cond.eq (.elem (.field (tmS 1) "java/lang/String" "value" "[B") (.int (Int32.ofNat 35))) (.int ((bytS.getD 1 []).getD 35 0)) ∈ FL := fa 150 rfl
set_option maxRecDepth 100000 in
theorem chr_1_36 : Cond.eq (.elem (.field (tmS 1) "java/lang/String" "value" "[B") (.int (Int32.ofNat 36))) (.int ((bytS.getD 1 []).getD 36 0)) ∈ FL := fa 151 rfl
set_option maxRecDepth 100000 in
theorem chr_1_37 : Cond.eq (.elem (.field (tmS 1) "java/lang/String" "value" "[B") (.int (Int32.ofNat 37))) (.int ((bytS.getD 1 []).getD 37 0)) ∈ FL := fa 152 rfl
set_option maxRecDepth 100000 in
theorem chr_1_38 : Cond.eq (.elem (.field (tmS 1) "java/lang/String" "value" "[B") (.int (Int32.ofNat 38))) (.int ((bytS.getD 1 []).getD 38 0)) ∈ FL := fa 153 rfl
set_option maxRecDepth 100000 in
theorem chr_1_39 : Cond.eq (.elem (.field (tmS 1) "java/lang/String" "value" "[B") (.int (Int32.ofNat 39))) (.int ((bytS.getD 1 []).getD 39 0)) ∈ FL := fa 154 rfl
set_option maxRecDepth 100000 in
theorem chr_1_40 : Cond.eq (.elem (.field (tmS 1) "java/lang/String" "value" "[B") (.int (Int32.ofNat 40))) (.int ((bytS.getD 1 []).getD 40 0)) ∈ FL := fa 155 rfl
set_option maxRecDepth 100000 in
theorem chr_1_41 : Cond.eq (.elem (.field (tmS 1) "java/lang/String" "value" "[B") (.int (Int32.ofNat 41))) (.int ((bytS.getD 1 []).getD 41 0)) ∈ FL := fa 156 rfl
set_option maxRecDepth 100000 in
theorem chr_1_42 : Cond.eq (.elem (.field (tmS 1) "java/lang/String" "value" "[B") (.int (Int32.ofNat 42))) (.int ((bytS.getD 1 []).getD 42 0)) ∈ FL := fa 157 rfl
set_option maxRecDepth 100000 in
theorem chr_1_43 : Cond.eq (.elem (.field (tmS 1) "java/lang/String" "value" "[B") (.int (Int32.ofNat 43))) (.int ((bytS.getD 1 []).getD 43 0)) ∈ FL := fa 158 rfl
set_option maxRecDepth 100000 in
theorem chr_1_44 : Cond.eq (.elem (.field (tmS 1) "java/lang/String" "value" "[B") (.int (Int32.ofNat 44))) (.int ((bytS.getD 1 []).getD 44 0)) ∈ FL := fa 159 rfl
set_option maxRecDepth 100000 in
theorem chr_1_45 : Cond.eq (.elem (.field (tmS 1) "java/lang/String" "value" "[B") (.int (Int32.ofNat 45))) (.int ((bytS.getD 1 []).getD 45 0)) ∈ FL := fa 160 rfl
set_option maxRecDepth 100000 in
theorem chr_1_46 : Cond.eq (.elem (.field (tmS 1) "java/lang/String" "value" "[B") (.int (Int32.ofNat 46))) (.int ((bytS.getD 1 []).getD 46 0)) ∈ FL := fa 161 rfl
set_option maxRecDepth 100000 in
theorem chr_1_47 : Cond.eq (.elem (.field (tmS 1) "java/lang/String" "value" "[B") (.int (Int32.ofNat 47))) (.int ((bytS.getD 1 []).getD 47 0)) ∈ FL := fa 162 rfl
set_option maxRecDepth 100000 in
theorem chr_1_48 : Cond.eq (.elem (.field (tmS 1) "java/lang/String" "value" "[B") (.int (Int32.ofNat 48))) (.int ((bytS.getD 1 []).getD 48 0)) ∈ FL := fa 163 rfl
set_option maxRecDepth 100000 in
theorem chr_1_49 : Cond.eq (.elem (.field (tmS 1) "java/lang/String" "value" "[B") (.int (Int32.ofNat 49))) (.int ((bytS.getD 1 []).getD 49 0)) ∈ FL := fa 164 rfl
set_option maxRecDepth 100000 in
theorem chr_1_50 : Cond.eq (.elem (.field (tmS 1) "java/lang/String" "value" "[B") (.int (Int32.ofNat 50))) (.int ((bytS.getD 1 []).getD 50 0)) ∈ FL := fa 165 rfl
set_option maxRecDepth 100000 in
theorem chr_1_51 : Cond.eq (.elem (.field (tmS 1) "java/lang/String" "value" "[B") (.int (Int32.ofNat 51))) (.int ((bytS.getD 1 []).getD 51 0)) ∈ FL := fa 166 rfl
set_option maxRecDepth 100000 in
theorem chr_1_52 : Cond.eq (.elem (.field (tmS 1) "java/lang/String" "value" "[B") (.int (Int32.ofNat 52))) (.int ((bytS.getD 1 []).getD 52 0)) ∈ FL := fa 167 rfl
set_option maxRecDepth 100000 in
theorem chr_1_53 : Cond.eq (.elem (.field (tmS 1) "java/lang/String" "value" "[B") (.int (Int32.ofNat 53))) (.int ((bytS.getD 1 []).getD 53 0)) ∈ FL := fa 168 rfl
set_option maxRecDepth 100000 in
theorem chr_1_54 : Cond.eq (.elem (.field (tmS 1) "java/lang/String" "value" "[B") (.int (Int32.ofNat 54))) (.int ((bytS.getD 1 []).getD 54 0)) ∈ FL := fa 169 rfl
set_option maxRecDepth 100000 in
theorem chr_1_55 : Cond.eq (.elem (.field (tmS 1) "java/lang/String" "value" "[B") (.int (Int32.ofNat 55))) (.int ((bytS.getD 1 []).getD 55 0)) ∈ FL := fa 170 rfl
set_option maxRecDepth 100000 in
theorem chr_1_56 : Cond.eq (.elem (.field (tmS 1) "java/lang/String" "value" "[B") (.int (Int32.ofNat 56))) (.int ((bytS.getD 1 []).getD 56 0)) ∈ FL := fa 171 rfl
set_option maxRecDepth 100000 in
theorem chr_1_57 : Cond.eq (.elem (.field (tmS 1) "java/lang/String" "value" "[B") (.int (Int32.ofNat 57))) (.int ((bytS.getD 1 []).getD 57 0)) ∈ FL := fa 172 rfl
set_option maxRecDepth 100000 in
theorem chr_1_58 : Cond.eq (.elem (.field (tmS 1) "java/lang/String" "value" "[B") (.int (Int32.ofNat 58))) (.int ((bytS.getD 1 []).getD 58 0)) ∈ FL := fa 173 rfl
set_option maxRecDepth 100000 in
theorem chr_1_59 : Cond.eq (.elem (.field (tmS 1) "java/lang/String" "value" "[B") (.int (Int32.ofNat 59))) (.int ((bytS.getD 1 []).getD 59 0)) ∈ FL := fa 174 rfl
set_option maxRecDepth 100000 in
theorem chr_1_60 : Cond.eq (.elem (.field (tmS 1) "java/lang/String" "value" "[B") (.int (Int32.ofNat 60))) (.int ((bytS.getD 1 []).getD 60 0)) ∈ FL := fa 175 rfl
set_option maxRecDepth 100000 in
theorem chr_1_61 : Cond.eq (.elem (.field (tmS 1) "java/lang/String" "value" "[B") (.int (Int32.ofNat 61))) (.int ((bytS.getD 1 []).getD 61 0)) ∈ FL := fa 176 rfl
set_option maxRecDepth 100000 in
theorem chr_1_62 : Cond.eq (.elem (.field (tmS 1) "java/lang/String" "value" "[B") (.int (Int32.ofNat 62))) (.int ((bytS.getD 1 []).getD 62 0)) ∈ FL := fa 177 rfl
set_option maxRecDepth 100000 in
theorem chr_1_63 : Cond.eq (.elem (.field (tmS 1) "java/lang/String" "value" "[B") (.int (Int32.ofNat 63))) (.int ((bytS.getD 1 []).getD 63 0)) ∈ FL := fa 178 rfl
theorem chr_1 : ∀ j, j < 64 → Cond.eq (.elem (.field (tmS 1) "java/lang/String" "value" "[B") (.int (Int32.ofNat j))) (.int ((bytS.getD 1 []).getD j 0)) ∈ FL := by
  intro j hj
  match j, hj with
  | 0, _ => exact chr_1_0
  | 1, _ => exact chr_1_1
  | 2, _ => exact chr_1_2
  | 3, _ => exact chr_1_3
  | 4, _ => exact chr_1_4
  | 5, _ => exact chr_1_5
  | 6, _ => exact chr_1_6
  | 7, _ => exact chr_1_7
  | 8, _ => exact chr_1_8
  | 9, _ => exact chr_1_9
  | 10, _ => exact chr_1_10
  | 11, _ => exact chr_1_11
  | 12, _ => exact chr_1_12
  | 13, _ => exact chr_1_13
  | 14, _ => exact chr_1_14
  | 15, _ => exact chr_1_15
  | 16, _ => exact chr_1_16
  | 17, _ => exact chr_1_17
  | 18, _ => exact chr_1_18
  | 19, _ => exact chr_1_19
  | 20, _ => exact chr_1_20
  | 21, _ => exact chr_1_21
  | 22, _ => exact chr_1_22
  | 23, _ => exact chr_1_23
  | 24, _ => exact chr_1_24
  | 25, _ => exact chr_1_25
  | 26, _ => exact chr_1_26
  | 27, _ => exact chr_1_27
  | 28, _ => exact chr_1_28
  | 29, _ => exact chr_1_29
  | 30, _ => exact chr_1_30
  | 31, _ => exact chr_1_31
  | 32, _ => exact chr_1_32
  | 33, _ => exact chr_1_33
  | 34, _ => exact chr_1_34
  | 35, _ => exact chr_1_35
  | 36, _ => exact chr_1_36
  | 37, _ => exact chr_1_37
  | 38, _ => exact chr_1_38
  | 39, _ => exact chr_1_39
  | 40, _ => exact chr_1_40
  | 41, _ => exact chr_1_41
  | 42, _ => exact chr_1_42
  | 43, _ => exact chr_1_43
  | 44, _ => exact chr_1_44
  | 45, _ => exact chr_1_45
  | 46, _ => exact chr_1_46
  | 47, _ => exact chr_1_47
  | 48, _ => exact chr_1_48
  | 49, _ => exact chr_1_49
  | 50, _ => exact chr_1_50
  | 51, _ => exact chr_1_51
  | 52, _ => exact chr_1_52
  | 53, _ => exact chr_1_53
  | 54, _ => exact chr_1_54
  | 55, _ => exact chr_1_55
  | 56, _ => exact chr_1_56
  | 57, _ => exact chr_1_57
  | 58, _ => exact chr_1_58
  | 59, _ => exact chr_1_59
  | 60, _ => exact chr_1_60
  | 61, _ => exact chr_1_61
  | 62, _ => exact chr_1_62
  | 63, _ => exact chr_1_63
  | n + 64, h => exact absurd h (by omega)
set_option maxRecDepth 100000 in
theorem chr_2_0 : Cond.eq (.elem (.field (tmS 2) "java/lang/String" "value" "[B") (.int (Int32.ofNat 0))) (.int ((bytS.getD 2 []).getD 0 0)) ∈ FL := fa 185 rfl
set_option maxRecDepth 100000 in
theorem chr_2_1 : Cond.eq (.elem (.field (tmS 2) "java/lang/String" "value" "[B") (.int (Int32.ofNat 1))) (.int ((bytS.getD 2 []).getD 1 0)) ∈ FL := fa 186 rfl
set_option maxRecDepth 100000 in
theorem chr_2_2 : Cond.eq (.elem (.field (tmS 2) "java/lang/String" "value" "[B") (.int (Int32.ofNat 2))) (.int ((bytS.getD 2 []).getD 2 0)) ∈ FL := fa 187 rfl
set_option maxRecDepth 100000 in
theorem chr_2_3 : Cond.eq (.elem (.field (tmS 2) "java/lang/String" "value" "[B") (.int (Int32.ofNat 3))) (.int ((bytS.getD 2 []).getD 3 0)) ∈ FL := fa 188 rfl
set_option maxRecDepth 100000 in
theorem chr_2_4 : Cond.eq (.elem (.field (tmS 2) "java/lang/String" "value" "[B") (.int (Int32.ofNat 4))) (.int ((bytS.getD 2 []).getD 4 0)) ∈ FL := fa 189 rfl
set_option maxRecDepth 100000 in
theorem chr_2_5 : Cond.eq (.elem (.field (tmS 2) "java/lang/String" "value" "[B") (.int (Int32.ofNat 5))) (.int ((bytS.getD 2 []).getD 5 0)) ∈ FL := fa 190 rfl
set_option maxRecDepth 100000 in
theorem chr_2_6 : Cond.eq (.elem (.field (tmS 2) "java/lang/String" "value" "[B") (.int (Int32.ofNat 6))) (.int ((bytS.getD 2 []).getD 6 0)) ∈ FL := fa 191 rfl
set_option maxRecDepth 100000 in
theorem chr_2_7 : Cond.eq (.elem (.field (tmS 2) "java/lang/String" "value" "[B") (.int (Int32.ofNat 7))) (.int ((bytS.getD 2 []).getD 7 0)) ∈ FL := fa 192 rfl
set_option maxRecDepth 100000 in
theorem chr_2_8 : Cond.eq (.elem (.field (tmS 2) "java/lang/String" "value" "[B") (.int (Int32.ofNat 8))) (.int ((bytS.getD 2 []).getD 8 0)) ∈ FL := fa 193 rfl
set_option maxRecDepth 100000 in
theorem chr_2_9 : Cond.eq (.elem (.field (tmS 2) "java/lang/String" "value" "[B") (.int (Int32.ofNat 9))) (.int ((bytS.getD 2 []).getD 9 0)) ∈ FL := fa 194 rfl
set_option maxRecDepth 100000 in
theorem chr_2_10 : Cond.eq (.elem (.field (tmS 2) "java/lang/String" "value" "[B") (.int (Int32.ofNat 10))) (.int ((bytS.getD 2 []).getD 10 0)) ∈ FL := fa 195 rfl
set_option maxRecDepth 100000 in
theorem chr_2_11 : Cond.eq (.elem (.field (tmS 2) "java/lang/String" "value" "[B") (.int (Int32.ofNat 11))) (.int ((bytS.getD 2 []).getD 11 0)) ∈ FL := fa 196 rfl
set_option maxRecDepth 100000 in
theorem chr_2_12 : Cond.eq (.elem (.field (tmS 2) "java/lang/String" "value" "[B") (.int (Int32.ofNat 12))) (.int ((bytS.getD 2 []).getD 12 0)) ∈ FL := fa 197 rfl
set_option maxRecDepth 100000 in
theorem chr_2_13 : Cond.eq (.elem (.field (tmS 2) "java/lang/String" "value" "[B") (.int (Int32.ofNat 13))) (.int ((bytS.getD 2 []).getD 13 0)) ∈ FL := fa 198 rfl
set_option maxRecDepth 100000 in
theorem chr_2_14 : Cond.eq (.elem (.field (tmS 2) "java/lang/String" "value" "[B") (.int (Int32.ofNat 14))) (.int ((bytS.getD 2 []).getD 14 0)) ∈ FL := fa 199 rfl
set_option maxRecDepth 100000 in
theorem chr_2_15 : Cond.eq (.elem (.field (tmS 2) "java/lang/String" "value" "[B") (.int (Int32.ofNat 15))) (.int ((bytS.getD 2 []).getD 15 0)) ∈ FL := fa 200 rfl
set_option maxRecDepth 100000 in
theorem chr_2_16 : Cond.eq (.elem (.field (tmS 2) "java/lang/String" "value" "[B") (.int (Int32.ofNat 16))) (.int ((bytS.getD 2 []).getD 16 0)) ∈ FL := fa 201 rfl
set_option maxRecDepth 100000 in
theorem chr_2_17 : Cond.eq (.elem (.field (tmS 2) "java/lang/String" "value" "[B") (.int (Int32.ofNat 17))) (.int ((bytS.getD 2 []).getD 17 0)) ∈ FL := fa 202 rfl
set_option maxRecDepth 100000 in
theorem chr_2_18 : Cond.eq (.elem (.field (tmS 2) "java/lang/String" "value" "[B") (.int (Int32.ofNat 18))) (.int ((bytS.getD 2 []).getD 18 0)) ∈ FL := fa 203 rfl
set_option maxRecDepth 100000 in
theorem chr_2_19 : Cond.eq (.elem (.field (tmS 2) "java/lang/String" "value" "[B") (.int (Int32.ofNat 19))) (.int ((bytS.getD 2 []).getD 19 0)) ∈ FL := fa 204 rfl
set_option maxRecDepth 100000 in
theorem chr_2_20 : Cond.eq (.elem (.field (tmS 2) "java/lang/String" "value" "[B") (.int (Int32.ofNat 20))) (.int ((bytS.getD 2 []).getD 20 0)) ∈ FL := fa 205 rfl
set_option maxRecDepth 100000 in
theorem chr_2_21 : Cond.eq (.elem (.field (tmS 2) "java/lang/String" "value" "[B") (.int (Int32.ofNat 21))) (.int ((bytS.getD 2 []).getD 21 0)) ∈ FL := fa 206 rfl
set_option maxRecDepth 100000 in
theorem chr_2_22 : Cond.eq (.elem (.field (tmS 2) "java/lang/String" "value" "[B") (.int (Int32.ofNat 22))) (.int ((bytS.getD 2 []).getD 22 0)) ∈ FL := fa 207 rfl
set_option maxRecDepth 100000 in
theorem chr_2_23 : Cond.eq (.elem (.field (tmS 2) "java/lang/String" "value" "[B") (.int (Int32.ofNat 23))) (.int ((bytS.getD 2 []).getD 23 0)) ∈ FL := fa 208 rfl
set_option maxRecDepth 100000 in
theorem chr_2_24 : Cond.eq (.elem (.field (tmS 2) "java/lang/String" "value" "[B") (.int (Int32.ofNat 24))) (.int ((bytS.getD 2 []).getD 24 0)) ∈ FL := fa 209 rfl
set_option maxRecDepth 100000 in
theorem chr_2_25 : Cond.eq (.elem (.field (tmS 2) "java/lang/String" "value" "[B") (.int (Int32.ofNat 25))) (.int ((bytS.getD 2 []).getD 25 0)) ∈ FL := fa 210 rfl
set_option maxRecDepth 100000 in
theorem chr_2_26 : Cond.eq (.elem (.field (tmS 2) "java/lang/String" "value" "[B") (.int (Int32.ofNat 26))) (.int ((bytS.getD 2 []).getD 26 0)) ∈ FL := fa 211 rfl
set_option maxRecDepth 100000 in
theorem chr_2_27 : Cond.eq (.elem (.field (tmS 2) "java/lang/String" "value" "[B") (.int (Int32.ofNat 27))) (.int ((bytS.getD 2 []).getD 27 0)) ∈ FL := fa 212 rfl
set_option maxRecDepth 100000 in
theorem chr_2_28 : Cond.eq (.elem (.field (tmS 2) "java/lang/String" "value" "[B") (.int (Int32.ofNat 28))) (.int ((bytS.getD 2 []).getD 28 0)) ∈ FL := fa 213 rfl
set_option maxRecDepth 100000 in
theorem chr_2_29 : Cond.eq (.elem (.field (tmS 2) "java/lang/String" "value" "[B") (.int (Int32.ofNat 29))) (.int ((bytS.getD 2 []).getD 29 0)) ∈ FL := fa 214 rfl
set_option maxRecDepth 100000 in
theorem chr_2_30 : Cond.eq (.elem (.field (tmS 2) "java/lang/String" "value" "[B") (.int (Int32.ofNat 30))) (.int ((bytS.getD 2 []).getD 30 0)) ∈ FL := fa 215 rfl
set_option maxRecDepth 100000 in
theorem chr_2_31 : Cond.eq (.elem (.field (tmS 2) "java/lang/String" "value" "[B") (.int (Int32.ofNat 31))) (.int ((bytS.getD 2 []).getD 31 0)) ∈ FL := fa 216 rfl
set_option maxRecDepth 100000 in
theorem chr_2_32 : Cond.eq (.elem (.field (tmS 2) "java/lang/String" "value" "[B") (.int (Int32.ofNat 32))) (.int ((bytS.getD 2 []).getD 32 0)) ∈ FL := fa 217 rfl
set_option maxRecDepth 100000 in
theorem chr_2_33 : Cond.eq (.elem (.field (tmS 2) "java/lang/String" "value" "[B") (.int (Int32.ofNat 33))) (.int ((bytS.getD 2 []).getD 33 0)) ∈ FL := fa 218 rfl
set_option maxRecDepth 100000 in
theorem chr_2_34 : Cond.eq (.elem (.field (tmS 2) "java/lang/String" "value" "[B") (.int (Int32.ofNat 34))) (.int ((bytS.getD 2 []).getD 34 0)) ∈ FL := fa 219 rfl
set_option maxRecDepth 100000 in
theorem chr_2_35 : Cond.eq (.elem (.field (tmS 2) "java/lang/String" "value" "[B") (.int (Int32.ofNat 35))) (.int ((bytS.getD 2 []).getD 35 0)) ∈ FL := fa 220 rfl
set_option maxRecDepth 100000 in
theorem chr_2_36 : Cond.eq (.elem (.field (tmS 2) "java/lang/String" "value" "[B") (.int (Int32.ofNat 36))) (.int ((bytS.getD 2 []).getD 36 0)) ∈ FL := fa 221 rfl
set_option maxRecDepth 100000 in
theorem chr_2_37 : Cond.eq (.elem (.field (tmS 2) "java/lang/String" "value" "[B") (.int (Int32.ofNat 37))) (.int ((bytS.getD 2 []).getD 37 0)) ∈ FL := fa 222 rfl
set_option maxRecDepth 100000 in
theorem chr_2_38 : Cond.eq (.elem (.field (tmS 2) "java/lang/String" "value" "[B") (.int (Int32.ofNat 38))) (.int ((bytS.getD 2 []).getD 38 0)) ∈ FL := fa 223 rfl
set_option maxRecDepth 100000 in
theorem chr_2_39 : Cond.eq (.elem (.field (tmS 2) "java/lang/String" "value" "[B") (.int (Int32.ofNat 39))) (.int ((bytS.getD 2 []).getD 39 0)) ∈ FL := fa 224 rfl
set_option maxRecDepth 100000 in
theorem chr_2_40 : Cond.eq (.elem (.field (tmS 2) "java/lang/String" "value" "[B") (.int (Int32.ofNat 40))) (.int ((bytS.getD 2 []).getD 40 0)) ∈ FL := fa 225 rfl
set_option maxRecDepth 100000 in
theorem chr_2_41 : Cond.eq (.elem (.field (tmS 2) "java/lang/String" "value" "[B") (.int (Int32.ofNat 41))) (.int ((bytS.getD 2 []).getD 41 0)) ∈ FL := fa 226 rfl
set_option maxRecDepth 100000 in
theorem chr_2_42 : Cond.eq (.elem (.field (tmS 2) "java/lang/String" "value" "[B") (.int (Int32.ofNat 42))) (.int ((bytS.getD 2 []).getD 42 0)) ∈ FL := fa 227 rfl
set_option maxRecDepth 100000 in
theorem chr_2_43 : Cond.eq (.elem (.field (tmS 2) "java/lang/String" "value" "[B") (.int (Int32.ofNat 43))) (.int ((bytS.getD 2 []).getD 43 0)) ∈ FL := fa 228 rfl
set_option maxRecDepth 100000 in
theorem chr_2_44 : Cond.eq (.elem (.field (tmS 2) "java/lang/String" "value" "[B") (.int (Int32.ofNat 44))) (.int ((bytS.getD 2 []).getD 44 0)) ∈ FL := fa 229 rfl
set_option maxRecDepth 100000 in
theorem chr_2_45 : Cond.eq (.elem (.field (tmS 2) "java/lang/String" "value" "[B") (.int (Int32.ofNat 45))) (.int ((bytS.getD 2 []).getD 45 0)) ∈ FL := fa 230 rfl
set_option maxRecDepth 100000 in
theorem chr_2_46 : Cond.eq (.elem (.field (tmS 2) "java/lang/String" "value" "[B") (.int (Int32.ofNat 46))) (.int ((bytS.getD 2 []).getD 46 0)) ∈ FL := fa 231 rfl
theorem chr_2 : ∀ j, j < 47 → Cond.eq (.elem (.field (tmS 2) "java/lang/String" "value" "[B") (.int (Int32.ofNat j))) (.int ((bytS.getD 2 []).getD j 0)) ∈ FL := by
  intro j hj
  match j, hj with
  | 0, _ => exact chr_2_0
  | 1, _ => exact chr_2_1
  | 2, _ => exact chr_2_2
  | 3, _ => exact chr_2_3
  | 4, _ => exact chr_2_4
  | 5, _ => exact chr_2_5
  | 6, _ => exact chr_2_6
  | 7, _ => exact chr_2_7
  | 8, _ => exact chr_2_8
  | 9, _ => exact chr_2_9
  | 10, _ => exact chr_2_10
  | 11, _ => exact chr_2_11
  | 12, _ => exact chr_2_12
  | 13, _ => exact chr_2_13
  | 14, _ => exact chr_2_14
  | 15, _ => exact chr_2_15
  | 16, _ => exact chr_2_16
  | 17, _ => exact chr_2_17
  | 18, _ => exact chr_2_18
  | 19, _ => exact chr_2_19
  | 20, _ => exact chr_2_20
  | 21, _ => exact chr_2_21
  | 22, _ => exact chr_2_22
  | 23, _ => exact chr_2_23
  | 24, _ => exact chr_2_24
  | 25, _ => exact chr_2_25
  | 26, _ => exact chr_2_26
  | 27, _ => exact chr_2_27
  | 28, _ => exact chr_2_28
  | 29, _ => exact chr_2_29
  | 30, _ => exact chr_2_30
  | 31, _ => exact chr_2_31
  | 32, _ => exact chr_2_32
  | 33, _ => exact chr_2_33
  | 34, _ => exact chr_2_34
  | 35, _ => exact chr_2_35
  | 36, _ => exact chr_2_36
  | 37, _ => exact chr_2_37
  | 38, _ => exact chr_2_38
  | 39, _ => exact chr_2_39
  | 40, _ => exact chr_2_40
  | 41, _ => exact chr_2_41
  | 42, _ => exact chr_2_42
  | 43, _ => exact chr_2_43
  | 44, _ => exact chr_2_44
  | 45, _ => exact chr_2_45
  | 46, _ => exact chr_2_46
  | n + 47, h => exact absurd h (by omega)
theorem fl_chr : ∀ i, i < 3 → ∀ j, j < lenS.getD i 0 → Cond.eq (.elem (.field (tmS i) "java/lang/String" "value" "[B") (.int (Int32.ofNat j))) (.int ((bytS.getD i []).getD j 0)) ∈ FL := by
  intro i hi
  match i, hi with
  | 0, _ => exact chr_0
  | 1, _ => exact chr_1
  | 2, _ => exact chr_2
