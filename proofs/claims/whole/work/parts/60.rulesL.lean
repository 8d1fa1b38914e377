/-! rules of the code, by program -/
set_option maxRecDepth 100000 in
theorem f_L_law_0 : am_cd k_L_law 0 = some ((some .boolean), .new 7, (10, 12, 72, 0, 0, .null)) := rfl
theorem s_L_law_0 {ls : am_L} {st : List Value} {σ : am_H} {Q : Option Value → am_H → Prop} : ax k_L_law 0 ls st σ Q = (σ.1 < am_top ∧ ax k_L_law 3 ls (.ref σ.1 :: st) (am_new σ 12 (am_ob 10 [.null, .null, .null, .null, .null, .null, .null, .null, .null, .null, .int 0, .int 0])) Q) := ru_new f_L_law_0 rfl rfl
set_option maxRecDepth 100000 in
theorem f_L_law_3 : am_cd k_L_law 3 = some ((some .boolean), .dup, (0, 0, 0, 0, 0, .null)) := rfl
theorem s_L_law_3 {ls : am_L} {st : List Value} {σ : am_H} {Q : Option Value → am_H → Prop} {a : Nat} : ax k_L_law 3 ls (.ref a :: st) σ Q = ax k_L_law 4 ls (.ref a :: .ref a :: st) σ Q := ru_pure f_L_law_3 rfl rfl
set_option maxRecDepth 100000 in
theorem f_L_law_4 : am_cd k_L_law 4 = some ((some .boolean), .invokespecial 9, (69, 0, 74, 0, 10, .null)) := rfl
theorem s_L_law_4 {ls : am_L} {st : List Value} {σ : am_H} {Q : Option Value → am_H → Prop} {b : Nat} (h8 : am_s8 st) : ax k_L_law 4 ls (.ref b :: st) σ Q = ax k_A_init 0 [some (.ref b)] [] σ (ax_k k_L_law 7 ls st Q) := ru_spc (M' := rk_A_init) f_L_law_4 rfl (by decide) rfl rfl h8 rfl rfl rfl rfl rfl
set_option maxRecDepth 100000 in
theorem f_L_law_7 : am_cd k_L_law 7 = some ((some .boolean), .astore_n 1, (0, 0, 0, 0, 0, .null)) := rfl
theorem s_L_law_7 {a0 a1 a2 a3 : Option Value} {st : List Value} {σ : am_H} {Q : Option Value → am_H → Prop} {x : Nat} (hc : am_c2 a0 = false) : ax k_L_law 7 [a0, a1, a2, a3] (.ref x :: st) σ Q = ax k_L_law 8 [a0, some (.ref x), a2, a3] st σ Q := ru_astore_n f_L_law_7 (Nat.le_of_ble_eq_true rfl) (ru_st1 (Nat.le_of_ble_eq_true rfl) (am_clr_c2 hc rfl) rfl) rfl
theorem s_L_law_7n {a0 a1 a2 a3 : Option Value} {st : List Value} {σ : am_H} {Q : Option Value → am_H → Prop} (hc : am_c2 a0 = false) : ax k_L_law 7 [a0, a1, a2, a3] (.null :: st) σ Q = ax k_L_law 8 [a0, some (.null), a2, a3] st σ Q := ru_astore_nN f_L_law_7 (Nat.le_of_ble_eq_true rfl) (ru_st1 (Nat.le_of_ble_eq_true rfl) (am_clr_c2 hc rfl) rfl) rfl
set_option maxRecDepth 100000 in
theorem f_L_law_8 : am_cd k_L_law 8 = some ((some .boolean), .new 10, (11, 62, 911, 0, 0, .null)) := rfl
theorem s_L_law_8 {ls : am_L} {st : List Value} {σ : am_H} {Q : Option Value → am_H → Prop} : ax k_L_law 8 ls st σ Q = (σ.1 < am_top ∧ ax k_L_law 11 ls (.ref σ.1 :: st) (am_new σ 62 (am_ob 11 [.int 0, .int 0, .int 0, .int 0, .null, .null, .null, .int 0, .null, .null, .null, .null, .null, .int 0, .null, .null, .null, .null, .int 0, .int 0, .null, .null, .null, .int 0, .null, .null, .null, .null, .null, .int 0, .null, .null, .null, .null, .null, .null, .null, .null, .int 0, .int 0, .int 0, .int 0, .int 0, .int 0, .int 0, .int 0, .null, .null, .null, .null, .null, .null, .null, .null, .null, .null, .null, .null, .null, .int 0, .int 0, .null])) Q) := ru_new f_L_law_8 rfl rfl
set_option maxRecDepth 100000 in
theorem f_L_law_11 : am_cd k_L_law 11 = some ((some .boolean), .dup, (0, 0, 0, 0, 0, .null)) := rfl
theorem s_L_law_11 {ls : am_L} {st : List Value} {σ : am_H} {Q : Option Value → am_H → Prop} {a : Nat} : ax k_L_law 11 ls (.ref a :: st) σ Q = ax k_L_law 12 ls (.ref a :: .ref a :: st) σ Q := ru_pure f_L_law_11 rfl rfl
set_option maxRecDepth 100000 in
theorem f_L_law_12 : am_cd k_L_law 12 = some ((some .boolean), .invokespecial 12, (112, 0, 913, 0, 11, .null)) := rfl
theorem s_L_law_12 {ls : am_L} {st : List Value} {σ : am_H} {Q : Option Value → am_H → Prop} {b : Nat} (h8 : am_s8 st) : ax k_L_law 12 ls (.ref b :: st) σ Q = ax k_M_init 0 [some (.ref b)] [] σ (ax_k k_L_law 15 ls st Q) := ru_spc (M' := rk_M_init) f_L_law_12 rfl (by decide) rfl rfl h8 rfl rfl rfl rfl rfl
set_option maxRecDepth 100000 in
theorem f_L_law_15 : am_cd k_L_law 15 = some ((some .boolean), .astore_n 2, (0, 0, 0, 0, 0, .null)) := rfl
theorem s_L_law_15 {a0 a1 a2 a3 : Option Value} {st : List Value} {σ : am_H} {Q : Option Value → am_H → Prop} {x : Nat} (hc : am_c2 a1 = false) : ax k_L_law 15 [a0, a1, a2, a3] (.ref x :: st) σ Q = ax k_L_law 16 [a0, a1, some (.ref x), a3] st σ Q := ru_astore_n f_L_law_15 (Nat.le_of_ble_eq_true rfl) (ru_st1 (Nat.le_of_ble_eq_true rfl) (am_clr_c2 hc rfl) rfl) rfl
theorem s_L_law_15n {a0 a1 a2 a3 : Option Value} {st : List Value} {σ : am_H} {Q : Option Value → am_H → Prop} (hc : am_c2 a1 = false) : ax k_L_law 15 [a0, a1, a2, a3] (.null :: st) σ Q = ax k_L_law 16 [a0, a1, some (.null), a3] st σ Q := ru_astore_nN f_L_law_15 (Nat.le_of_ble_eq_true rfl) (ru_st1 (Nat.le_of_ble_eq_true rfl) (am_clr_c2 hc rfl) rfl) rfl
set_option maxRecDepth 100000 in
theorem f_L_law_16 : am_cd k_L_law 16 = some ((some .boolean), .iconst 0, (0, 0, 0, 0, 0, .null)) := rfl
theorem s_L_law_16 {ls : am_L} {st : List Value} {σ : am_H} {Q : Option Value → am_H → Prop} : ax k_L_law 16 ls st σ Q = ax k_L_law 17 ls (.int 0 :: st) σ Q := ru_iconst f_L_law_16 (by decide +kernel) rfl
set_option maxRecDepth 100000 in
theorem f_L_law_17 : am_cd k_L_law 17 = some ((some .boolean), .istore_n 3, (0, 0, 0, 0, 0, .null)) := rfl
theorem s_L_law_17 {a0 a1 a2 a3 : Option Value} {st : List Value} {σ : am_H} {Q : Option Value → am_H → Prop} {x : Int32} (hc : am_c2 a2 = false) : ax k_L_law 17 [a0, a1, a2, a3] (.int x :: st) σ Q = ax k_L_law 18 [a0, a1, a2, some (.int x)] st σ Q := ru_istore_n f_L_law_17 (Nat.le_of_ble_eq_true rfl) (ru_st1 (Nat.le_of_ble_eq_true rfl) (am_clr_c2 hc rfl) rfl) rfl
set_option maxRecDepth 100000 in
theorem f_L_law_18 : am_cd k_L_law 18 = some ((some .boolean), .iload_n 3, (0, 0, 0, 0, 0, .null)) := rfl
theorem s_L_law_18 {a0 a1 a2 : Option Value} {st : List Value} {σ : am_H} {Q : Option Value → am_H → Prop} {x : Int32} : ax k_L_law 18 [a0, a1, a2, some (.int x)] st σ Q = ax k_L_law 19 [a0, a1, a2, some (.int x)] (.int x :: st) σ Q := ru_loc (q := (_, _)) f_L_law_18 rfl rfl rfl
set_option maxRecDepth 100000 in
theorem f_L_law_19 : am_cd k_L_law 19 = some ((some .boolean), .aload_n 0, (0, 0, 0, 0, 0, .null)) := rfl
theorem s_L_law_19 {a1 a2 a3 : Option Value} {st : List Value} {σ : am_H} {Q : Option Value → am_H → Prop} {x : Nat} : ax k_L_law 19 [some (.ref x), a1, a2, a3] st σ Q = ax k_L_law 20 [some (.ref x), a1, a2, a3] (.ref x :: st) σ Q := ru_loc (q := (_, _)) f_L_law_19 rfl rfl rfl
set_option maxRecDepth 100000 in
theorem f_L_law_20 : am_cd k_L_law 20 = some ((some .boolean), .arraylength, (0, 0, 0, 0, 0, .null)) := rfl
theorem s_L_law_20 {ls : am_L} {st : List Value} {σ : am_H} {Q : Option Value → am_H → Prop} {a : Nat} : ax k_L_law 20 ls (.ref a :: st) σ Q = ax_f (am_nv σ a) (fun n => ax k_L_law 21 ls (.int (Int32.ofNat n) :: st) σ Q) := ru_alen f_L_law_20 rfl
set_option maxRecDepth 100000 in
theorem f_L_law_21 : am_cd k_L_law 21 = some ((some .boolean), .bipush 7, (0, 0, 0, 0, 0, .null)) := rfl
theorem s_L_law_21 {ls : am_L} {st : List Value} {σ : am_H} {Q : Option Value → am_H → Prop} : ax k_L_law 21 ls st σ Q = ax k_L_law 23 ls (.int 7 :: st) σ Q := ru_bipush f_L_law_21 (by decide +kernel) rfl
set_option maxRecDepth 100000 in
theorem f_L_law_23 : am_cd k_L_law 23 = some ((some .boolean), .isub, (0, 0, 0, 0, 0, .null)) := rfl
theorem s_L_law_23 {ls : am_L} {st : List Value} {σ : am_H} {Q : Option Value → am_H → Prop} {x y : Int32} : ax k_L_law 23 ls (.int y :: .int x :: st) σ Q = ax k_L_law 24 ls (.int (x - y) :: st) σ Q := ru_pure f_L_law_23 rfl rfl
set_option maxRecDepth 100000 in
theorem f_L_law_24 : am_cd k_L_law 24 = some ((some .boolean), .if_icmp .gt 1372, (1396, 0, 0, 0, 0, .null)) := rfl
theorem s_L_law_24 {ls : am_L} {st : List Value} {σ : am_H} {Q : Option Value → am_H → Prop} {x y : Int32} : ax k_L_law 24 ls (.int y :: .int x :: st) σ Q = (if y < x then ax k_L_law 1396 ls st σ Q else ax k_L_law 27 ls st σ Q) := (ru_icmp f_L_law_24 rfl).trans (ru_i_gt _ _ _ _)
set_option maxRecDepth 100000 in
theorem f_L_law_27 : am_cd k_L_law 27 = some ((some .boolean), .aload_n 0, (0, 0, 0, 0, 0, .null)) := rfl
theorem s_L_law_27 {a1 a2 a3 : Option Value} {st : List Value} {σ : am_H} {Q : Option Value → am_H → Prop} {x : Nat} : ax k_L_law 27 [some (.ref x), a1, a2, a3] st σ Q = ax k_L_law 28 [some (.ref x), a1, a2, a3] (.ref x :: st) σ Q := ru_loc (q := (_, _)) f_L_law_27 rfl rfl rfl
set_option maxRecDepth 100000 in
theorem f_L_law_28 : am_cd k_L_law 28 = some ((some .boolean), .iload_n 3, (0, 0, 0, 0, 0, .null)) := rfl
theorem s_L_law_28 {a0 a1 a2 : Option Value} {st : List Value} {σ : am_H} {Q : Option Value → am_H → Prop} {x : Int32} : ax k_L_law 28 [a0, a1, a2, some (.int x)] st σ Q = ax k_L_law 29 [a0, a1, a2, some (.int x)] (.int x :: st) σ Q := ru_loc (q := (_, _)) f_L_law_28 rfl rfl rfl
set_option maxRecDepth 100000 in
theorem f_L_law_29 : am_cd k_L_law 29 = some ((some .boolean), .iaload, (0, 0, 0, 0, 0, .null)) := rfl
theorem s_L_law_29 {ls : am_L} {st : List Value} {σ : am_H} {Q : Option Value → am_H → Prop} {a : Nat} {j : Int32} : ax k_L_law 29 ls (.int j :: .ref a :: st) σ Q = ax_f (am_j σ a) (fun q => q.1 = 0 ∧ am_ix j q.2.1 ∧ ax k_L_law 30 ls (.int (q.2.2 j.toNatClampNeg) :: st) σ Q) := rv_iald f_L_law_29 rfl
set_option maxRecDepth 100000 in
theorem f_L_law_30 : am_cd k_L_law 30 = some ((some .boolean), .bipush 31, (0, 0, 0, 0, 0, .null)) := rfl
theorem s_L_law_30 {ls : am_L} {st : List Value} {σ : am_H} {Q : Option Value → am_H → Prop} : ax k_L_law 30 ls st σ Q = ax k_L_law 32 ls (.int 31 :: st) σ Q := ru_bipush f_L_law_30 (by decide +kernel) rfl
set_option maxRecDepth 100000 in
theorem f_L_law_32 : am_cd k_L_law 32 = some ((some .boolean), .iand, (0, 0, 0, 0, 0, .null)) := rfl
theorem s_L_law_32 {ls : am_L} {st : List Value} {σ : am_H} {Q : Option Value → am_H → Prop} {x y : Int32} : ax k_L_law 32 ls (.int y :: .int x :: st) σ Q = ax k_L_law 33 ls (.int (x &&& y) :: st) σ Q := ru_pure f_L_law_32 rfl rfl
set_option maxRecDepth 100000 in
theorem f_L_law_33 : am_cd k_L_law 33 = some ((some .boolean), .tableswitch 1357 0 28 #[131, 154, 177, 210, 243, 326, 385, 454, 513, 582, 615, 638, 671, 720, 753, 812, 875, 898, 921, 944, 1007, 1070, 1103, 1178, 1201, 1234, 1258, 1311, 1334], (0, 0, 0, 0, 0, .null)) := rfl
theorem s_L_law_33 {ls : am_L} {st : List Value} {σ : am_H} {Q : Option Value → am_H → Prop} {x : Int32} : ax k_L_law 33 ls (.int x :: st) σ Q = (if x = 0 then ax k_L_law 164 ls st σ Q else (if x = 1 then ax k_L_law 187 ls st σ Q else (if x = 2 then ax k_L_law 210 ls st σ Q else (if x = 3 then ax k_L_law 243 ls st σ Q else (if x = 4 then ax k_L_law 276 ls st σ Q else (if x = 5 then ax k_L_law 359 ls st σ Q else (if x = 6 then ax k_L_law 418 ls st σ Q else (if x = 7 then ax k_L_law 487 ls st σ Q else (if x = 8 then ax k_L_law 546 ls st σ Q else (if x = 9 then ax k_L_law 615 ls st σ Q else (if x = 10 then ax k_L_law 648 ls st σ Q else (if x = 11 then ax k_L_law 671 ls st σ Q else (if x = 12 then ax k_L_law 704 ls st σ Q else (if x = 13 then ax k_L_law 753 ls st σ Q else (if x = 14 then ax k_L_law 786 ls st σ Q else (if x = 15 then ax k_L_law 845 ls st σ Q else (if x = 16 then ax k_L_law 908 ls st σ Q else (if x = 17 then ax k_L_law 931 ls st σ Q else (if x = 18 then ax k_L_law 954 ls st σ Q else (if x = 19 then ax k_L_law 977 ls st σ Q else (if x = 20 then ax k_L_law 1040 ls st σ Q else (if x = 21 then ax k_L_law 1103 ls st σ Q else (if x = 22 then ax k_L_law 1136 ls st σ Q else (if x = 23 then ax k_L_law 1211 ls st σ Q else (if x = 24 then ax k_L_law 1234 ls st σ Q else (if x = 25 then ax k_L_law 1267 ls st σ Q else (if x = 26 then ax k_L_law 1291 ls st σ Q else (if x = 27 then ax k_L_law 1344 ls st σ Q else (if x = 28 then ax k_L_law 1367 ls st σ Q else ax k_L_law 1390 ls st σ Q))))))))))))))))))))))))))))) := by
  by_cases h0 : x = 0
  · rw [if_pos h0]; subst h0; exact ru_tabI f_L_law_33 (by decide) rfl rfl
  by_cases h1 : x = 1
  · rw [if_neg h0, if_pos h1]; subst h1; exact ru_tabI f_L_law_33 (by decide) rfl rfl
  by_cases h2 : x = 2
  · rw [if_neg h0, if_neg h1, if_pos h2]; subst h2; exact ru_tabI f_L_law_33 (by decide) rfl rfl
  by_cases h3 : x = 3
  · rw [if_neg h0, if_neg h1, if_neg h2, if_pos h3]; subst h3; exact ru_tabI f_L_law_33 (by decide) rfl rfl
  by_cases h4 : x = 4
  · rw [if_neg h0, if_neg h1, if_neg h2, if_neg h3, if_pos h4]; subst h4; exact ru_tabI f_L_law_33 (by decide) rfl rfl
  by_cases h5 : x = 5
  · rw [if_neg h0, if_neg h1, if_neg h2, if_neg h3, if_neg h4, if_pos h5]; subst h5; exact ru_tabI f_L_law_33 (by decide) rfl rfl
  by_cases h6 : x = 6
  · rw [if_neg h0, if_neg h1, if_neg h2, if_neg h3, if_neg h4, if_neg h5, if_pos h6]; subst h6; exact ru_tabI f_L_law_33 (by decide) rfl rfl
  by_cases h7 : x = 7
  · rw [if_neg h0, if_neg h1, if_neg h2, if_neg h3, if_neg h4, if_neg h5, if_neg h6, if_pos h7]; subst h7; exact ru_tabI f_L_law_33 (by decide) rfl rfl
  by_cases h8 : x = 8
  · rw [if_neg h0, if_neg h1, if_neg h2, if_neg h3, if_neg h4, if_neg h5, if_neg h6, if_neg h7, if_pos h8]; subst h8; exact ru_tabI f_L_law_33 (by decide) rfl rfl
  by_cases h9 : x = 9
  · rw [if_neg h0, if_neg h1, if_neg h2, if_neg h3, if_neg h4, if_neg h5, if_neg h6, if_neg h7, if_neg h8, if_pos h9]; subst h9; exact ru_tabI f_L_law_33 (by decide) rfl rfl
  by_cases h10 : x = 10
  · rw [if_neg h0, if_neg h1, if_neg h2, if_neg h3, if_neg h4, if_neg h5, if_neg h6, if_neg h7, if_neg h8, if_neg h9, if_pos h10]; subst h10; exact ru_tabI f_L_law_33 (by decide) rfl rfl
  by_cases h11 : x = 11
  · rw [if_neg h0, if_neg h1, if_neg h2, if_neg h3, if_neg h4, if_neg h5, if_neg h6, if_neg h7, if_neg h8, if_neg h9, if_neg h10, if_pos h11]; subst h11; exact ru_tabI f_L_law_33 (by decide) rfl rfl
  by_cases h12 : x = 12
  · rw [if_neg h0, if_neg h1, if_neg h2, if_neg h3, if_neg h4, if_neg h5, if_neg h6, if_neg h7, if_neg h8, if_neg h9, if_neg h10, if_neg h11, if_pos h12]; subst h12; exact ru_tabI f_L_law_33 (by decide) rfl rfl
  by_cases h13 : x = 13
  · rw [if_neg h0, if_neg h1, if_neg h2, if_neg h3, if_neg h4, if_neg h5, if_neg h6, if_neg h7, if_neg h8, if_neg h9, if_neg h10, if_neg h11, if_neg h12, if_pos h13]; subst h13; exact ru_tabI f_L_law_33 (by decide) rfl rfl
  by_cases h14 : x = 14
  · rw [if_neg h0, if_neg h1, if_neg h2, if_neg h3, if_neg h4, if_neg h5, if_neg h6, if_neg h7, if_neg h8, if_neg h9, if_neg h10, if_neg h11, if_neg h12, if_neg h13, if_pos h14]; subst h14; exact ru_tabI f_L_law_33 (by decide) rfl rfl
  by_cases h15 : x = 15
  · rw [if_neg h0, if_neg h1, if_neg h2, if_neg h3, if_neg h4, if_neg h5, if_neg h6, if_neg h7, if_neg h8, if_neg h9, if_neg h10, if_neg h11, if_neg h12, if_neg h13, if_neg h14, if_pos h15]; subst h15; exact ru_tabI f_L_law_33 (by decide) rfl rfl
  by_cases h16 : x = 16
  · rw [if_neg h0, if_neg h1, if_neg h2, if_neg h3, if_neg h4, if_neg h5, if_neg h6, if_neg h7, if_neg h8, if_neg h9, if_neg h10, if_neg h11, if_neg h12, if_neg h13, if_neg h14, if_neg h15, if_pos h16]; subst h16; exact ru_tabI f_L_law_33 (by decide) rfl rfl
  by_cases h17 : x = 17
  · rw [if_neg h0, if_neg h1, if_neg h2, if_neg h3, if_neg h4, if_neg h5, if_neg h6, if_neg h7, if_neg h8, if_neg h9, if_neg h10, if_neg h11, if_neg h12, if_neg h13, if_neg h14, if_neg h15, if_neg h16, if_pos h17]; subst h17; exact ru_tabI f_L_law_33 (by decide) rfl rfl
  by_cases h18 : x = 18
  · rw [if_neg h0, if_neg h1, if_neg h2, if_neg h3, if_neg h4, if_neg h5, if_neg h6, if_neg h7, if_neg h8, if_neg h9, if_neg h10, if_neg h11, if_neg h12, if_neg h13, if_neg h14, if_neg h15, if_neg h16, if_neg h17, if_pos h18]; subst h18; exact ru_tabI f_L_law_33 (by decide) rfl rfl
  by_cases h19 : x = 19
  · rw [if_neg h0, if_neg h1, if_neg h2, if_neg h3, if_neg h4, if_neg h5, if_neg h6, if_neg h7, if_neg h8, if_neg h9, if_neg h10, if_neg h11, if_neg h12, if_neg h13, if_neg h14, if_neg h15, if_neg h16, if_neg h17, if_neg h18, if_pos h19]; subst h19; exact ru_tabI f_L_law_33 (by decide) rfl rfl
  by_cases h20 : x = 20
  · rw [if_neg h0, if_neg h1, if_neg h2, if_neg h3, if_neg h4, if_neg h5, if_neg h6, if_neg h7, if_neg h8, if_neg h9, if_neg h10, if_neg h11, if_neg h12, if_neg h13, if_neg h14, if_neg h15, if_neg h16, if_neg h17, if_neg h18, if_neg h19, if_pos h20]; subst h20; exact ru_tabI f_L_law_33 (by decide) rfl rfl
  by_cases h21 : x = 21
  · rw [if_neg h0, if_neg h1, if_neg h2, if_neg h3, if_neg h4, if_neg h5, if_neg h6, if_neg h7, if_neg h8, if_neg h9, if_neg h10, if_neg h11, if_neg h12, if_neg h13, if_neg h14, if_neg h15, if_neg h16, if_neg h17, if_neg h18, if_neg h19, if_neg h20, if_pos h21]; subst h21; exact ru_tabI f_L_law_33 (by decide) rfl rfl
  by_cases h22 : x = 22
  · rw [if_neg h0, if_neg h1, if_neg h2, if_neg h3, if_neg h4, if_neg h5, if_neg h6, if_neg h7, if_neg h8, if_neg h9, if_neg h10, if_neg h11, if_neg h12, if_neg h13, if_neg h14, if_neg h15, if_neg h16, if_neg h17, if_neg h18, if_neg h19, if_neg h20, if_neg h21, if_pos h22]; subst h22; exact ru_tabI f_L_law_33 (by decide) rfl rfl
  by_cases h23 : x = 23
  · rw [if_neg h0, if_neg h1, if_neg h2, if_neg h3, if_neg h4, if_neg h5, if_neg h6, if_neg h7, if_neg h8, if_neg h9, if_neg h10, if_neg h11, if_neg h12, if_neg h13, if_neg h14, if_neg h15, if_neg h16, if_neg h17, if_neg h18, if_neg h19, if_neg h20, if_neg h21, if_neg h22, if_pos h23]; subst h23; exact ru_tabI f_L_law_33 (by decide) rfl rfl
  by_cases h24 : x = 24
  · rw [if_neg h0, if_neg h1, if_neg h2, if_neg h3, if_neg h4, if_neg h5, if_neg h6, if_neg h7, if_neg h8, if_neg h9, if_neg h10, if_neg h11, if_neg h12, if_neg h13, if_neg h14, if_neg h15, if_neg h16, if_neg h17, if_neg h18, if_neg h19, if_neg h20, if_neg h21, if_neg h22, if_neg h23, if_pos h24]; subst h24; exact ru_tabI f_L_law_33 (by decide) rfl rfl
  by_cases h25 : x = 25
  · rw [if_neg h0, if_neg h1, if_neg h2, if_neg h3, if_neg h4, if_neg h5, if_neg h6, if_neg h7, if_neg h8, if_neg h9, if_neg h10, if_neg h11, if_neg h12, if_neg h13, if_neg h14, if_neg h15, if_neg h16, if_neg h17, if_neg h18, if_neg h19, if_neg h20, if_neg h21, if_neg h22, if_neg h23, if_neg h24, if_pos h25]; subst h25; exact ru_tabI f_L_law_33 (by decide) rfl rfl
  by_cases h26 : x = 26
  · rw [if_neg h0, if_neg h1, if_neg h2, if_neg h3, if_neg h4, if_neg h5, if_neg h6, if_neg h7, if_neg h8, if_neg h9, if_neg h10, if_neg h11, if_neg h12, if_neg h13, if_neg h14, if_neg h15, if_neg h16, if_neg h17, if_neg h18, if_neg h19, if_neg h20, if_neg h21, if_neg h22, if_neg h23, if_neg h24, if_neg h25, if_pos h26]; subst h26; exact ru_tabI f_L_law_33 (by decide) rfl rfl
  by_cases h27 : x = 27
  · rw [if_neg h0, if_neg h1, if_neg h2, if_neg h3, if_neg h4, if_neg h5, if_neg h6, if_neg h7, if_neg h8, if_neg h9, if_neg h10, if_neg h11, if_neg h12, if_neg h13, if_neg h14, if_neg h15, if_neg h16, if_neg h17, if_neg h18, if_neg h19, if_neg h20, if_neg h21, if_neg h22, if_neg h23, if_neg h24, if_neg h25, if_neg h26, if_pos h27]; subst h27; exact ru_tabI f_L_law_33 (by decide) rfl rfl
  by_cases h28 : x = 28
  · rw [if_neg h0, if_neg h1, if_neg h2, if_neg h3, if_neg h4, if_neg h5, if_neg h6, if_neg h7, if_neg h8, if_neg h9, if_neg h10, if_neg h11, if_neg h12, if_neg h13, if_neg h14, if_neg h15, if_neg h16, if_neg h17, if_neg h18, if_neg h19, if_neg h20, if_neg h21, if_neg h22, if_neg h23, if_neg h24, if_neg h25, if_neg h26, if_neg h27, if_pos h28]; subst h28; exact ru_tabI f_L_law_33 (by decide) rfl rfl
  rw [if_neg h0, if_neg h1, if_neg h2, if_neg h3, if_neg h4, if_neg h5, if_neg h6, if_neg h7, if_neg h8, if_neg h9, if_neg h10, if_neg h11, if_neg h12, if_neg h13, if_neg h14, if_neg h15, if_neg h16, if_neg h17, if_neg h18, if_neg h19, if_neg h20, if_neg h21, if_neg h22, if_neg h23, if_neg h24, if_neg h25, if_neg h26, if_neg h27, if_neg h28]
  have e0 : ¬ x.toInt = 0 := fun z => h0 (Int32.toInt_inj.mp (z.trans (by decide)))
  have e1 : ¬ x.toInt = 1 := fun z => h1 (Int32.toInt_inj.mp (z.trans (by decide)))
  have e2 : ¬ x.toInt = 2 := fun z => h2 (Int32.toInt_inj.mp (z.trans (by decide)))
  have e3 : ¬ x.toInt = 3 := fun z => h3 (Int32.toInt_inj.mp (z.trans (by decide)))
  have e4 : ¬ x.toInt = 4 := fun z => h4 (Int32.toInt_inj.mp (z.trans (by decide)))
  have e5 : ¬ x.toInt = 5 := fun z => h5 (Int32.toInt_inj.mp (z.trans (by decide)))
  have e6 : ¬ x.toInt = 6 := fun z => h6 (Int32.toInt_inj.mp (z.trans (by decide)))
  have e7 : ¬ x.toInt = 7 := fun z => h7 (Int32.toInt_inj.mp (z.trans (by decide)))
  have e8 : ¬ x.toInt = 8 := fun z => h8 (Int32.toInt_inj.mp (z.trans (by decide)))
  have e9 : ¬ x.toInt = 9 := fun z => h9 (Int32.toInt_inj.mp (z.trans (by decide)))
  have e10 : ¬ x.toInt = 10 := fun z => h10 (Int32.toInt_inj.mp (z.trans (by decide)))
  have e11 : ¬ x.toInt = 11 := fun z => h11 (Int32.toInt_inj.mp (z.trans (by decide)))
  have e12 : ¬ x.toInt = 12 := fun z => h12 (Int32.toInt_inj.mp (z.trans (by decide)))
  have e13 : ¬ x.toInt = 13 := fun z => h13 (Int32.toInt_inj.mp (z.trans (by decide)))
  have e14 : ¬ x.toInt = 14 := fun z => h14 (Int32.toInt_inj.mp (z.trans (by decide)))
  have e15 : ¬ x.toInt = 15 := fun z => h15 (Int32.toInt_inj.mp (z.trans (by decide)))
  have e16 : ¬ x.toInt = 16 := fun z => h16 (Int32.toInt_inj.mp (z.trans (by decide)))
  have e17 : ¬ x.toInt = 17 := fun z => h17 (Int32.toInt_inj.mp (z.trans (by decide)))
  have e18 : ¬ x.toInt = 18 := fun z => h18 (Int32.toInt_inj.mp (z.trans (by decide)))
  have e19 : ¬ x.toInt = 19 := fun z => h19 (Int32.toInt_inj.mp (z.trans (by decide)))
  have e20 : ¬ x.toInt = 20 := fun z => h20 (Int32.toInt_inj.mp (z.trans (by decide)))
  have e21 : ¬ x.toInt = 21 := fun z => h21 (Int32.toInt_inj.mp (z.trans (by decide)))
  have e22 : ¬ x.toInt = 22 := fun z => h22 (Int32.toInt_inj.mp (z.trans (by decide)))
  have e23 : ¬ x.toInt = 23 := fun z => h23 (Int32.toInt_inj.mp (z.trans (by decide)))
  have e24 : ¬ x.toInt = 24 := fun z => h24 (Int32.toInt_inj.mp (z.trans (by decide)))
  have e25 : ¬ x.toInt = 25 := fun z => h25 (Int32.toInt_inj.mp (z.trans (by decide)))
  have e26 : ¬ x.toInt = 26 := fun z => h26 (Int32.toInt_inj.mp (z.trans (by decide)))
  have e27 : ¬ x.toInt = 27 := fun z => h27 (Int32.toInt_inj.mp (z.trans (by decide)))
  have e28 : ¬ x.toInt = 28 := fun z => h28 (Int32.toInt_inj.mp (z.trans (by decide)))
  exact ru_tabO f_L_law_33 (by omega) rfl
set_option maxRecDepth 100000 in
theorem f_L_law_164 : am_cd k_L_law 164 = some ((some .boolean), .aload_n 1, (0, 0, 0, 0, 0, .null)) := rfl
theorem s_L_law_164 {a0 a2 a3 : Option Value} {st : List Value} {σ : am_H} {Q : Option Value → am_H → Prop} {x : Nat} : ax k_L_law 164 [a0, some (.ref x), a2, a3] st σ Q = ax k_L_law 165 [a0, some (.ref x), a2, a3] (.ref x :: st) σ Q := ru_loc (q := (_, _)) f_L_law_164 rfl rfl rfl
theorem s_L_law_164n {a0 a2 a3 : Option Value} {st : List Value} {σ : am_H} {Q : Option Value → am_H → Prop} : ax k_L_law 164 [a0, some .null, a2, a3] st σ Q = ax k_L_law 165 [a0, some .null, a2, a3] (.null :: st) σ Q := ru_loc (q := (_, _)) f_L_law_164 rfl rfl rfl
set_option maxRecDepth 100000 in
theorem f_L_law_165 : am_cd k_L_law 165 = some ((some .boolean), .aload_n 0, (0, 0, 0, 0, 0, .null)) := rfl
theorem s_L_law_165 {a1 a2 a3 : Option Value} {st : List Value} {σ : am_H} {Q : Option Value → am_H → Prop} {x : Nat} : ax k_L_law 165 [some (.ref x), a1, a2, a3] st σ Q = ax k_L_law 166 [some (.ref x), a1, a2, a3] (.ref x :: st) σ Q := ru_loc (q := (_, _)) f_L_law_165 rfl rfl rfl
set_option maxRecDepth 100000 in
theorem f_L_law_166 : am_cd k_L_law 166 = some ((some .boolean), .iload_n 3, (0, 0, 0, 0, 0, .null)) := rfl
theorem s_L_law_166 {a0 a1 a2 : Option Value} {st : List Value} {σ : am_H} {Q : Option Value → am_H → Prop} {x : Int32} : ax k_L_law 166 [a0, a1, a2, some (.int x)] st σ Q = ax k_L_law 167 [a0, a1, a2, some (.int x)] (.int x :: st) σ Q := ru_loc (q := (_, _)) f_L_law_166 rfl rfl rfl
set_option maxRecDepth 100000 in
theorem f_L_law_167 : am_cd k_L_law 167 = some ((some .boolean), .iconst 1, (0, 0, 0, 0, 0, .null)) := rfl
theorem s_L_law_167 {ls : am_L} {st : List Value} {σ : am_H} {Q : Option Value → am_H → Prop} : ax k_L_law 167 ls st σ Q = ax k_L_law 168 ls (.int 1 :: st) σ Q := ru_iconst f_L_law_167 (by decide +kernel) rfl
set_option maxRecDepth 100000 in
theorem f_L_law_168 : am_cd k_L_law 168 = some ((some .boolean), .iadd, (0, 0, 0, 0, 0, .null)) := rfl
theorem s_L_law_168 {ls : am_L} {st : List Value} {σ : am_H} {Q : Option Value → am_H → Prop} {x y : Int32} : ax k_L_law 168 ls (.int y :: .int x :: st) σ Q = ax k_L_law 169 ls (.int (x + y) :: st) σ Q := ru_pure f_L_law_168 rfl rfl
set_option maxRecDepth 100000 in
theorem f_L_law_169 : am_cd k_L_law 169 = some ((some .boolean), .iaload, (0, 0, 0, 0, 0, .null)) := rfl
theorem s_L_law_169 {ls : am_L} {st : List Value} {σ : am_H} {Q : Option Value → am_H → Prop} {a : Nat} {j : Int32} : ax k_L_law 169 ls (.int j :: .ref a :: st) σ Q = ax_f (am_j σ a) (fun q => q.1 = 0 ∧ am_ix j q.2.1 ∧ ax k_L_law 170 ls (.int (q.2.2 j.toNatClampNeg) :: st) σ Q) := rv_iald f_L_law_169 rfl
set_option maxRecDepth 100000 in
theorem f_L_law_170 : am_cd k_L_law 170 = some ((some .boolean), .invokevirtual 13, (70, 1, 317, 0, 10, .null)) := rfl
theorem s_L_law_170 {ls : am_L} {st : List Value} {σ : am_H} {Q : Option Value → am_H → Prop} {p0 : Int32} {b : Nat} (hi : am_is σ b 10) (h8 : am_s8 st) : ax k_L_law 170 ls (.int p0 :: .ref b :: st) σ Q = ax k_A_minute 0 [some (.ref b), some (.int p0)] [] σ (ax_k k_L_law 173 ls st Q) := ru_vir (M' := rk_A_minute) f_L_law_170 rfl rfl rfl rfl hi h8 rfl rfl rfl rfl rfl
set_option maxRecDepth 100000 in
theorem f_L_law_173 : am_cd k_L_law 173 = some ((some .boolean), .aload_n 2, (0, 0, 0, 0, 0, .null)) := rfl
theorem s_L_law_173 {a0 a1 a3 : Option Value} {st : List Value} {σ : am_H} {Q : Option Value → am_H → Prop} {x : Nat} : ax k_L_law 173 [a0, a1, some (.ref x), a3] st σ Q = ax k_L_law 174 [a0, a1, some (.ref x), a3] (.ref x :: st) σ Q := ru_loc (q := (_, _)) f_L_law_173 rfl rfl rfl
theorem s_L_law_173n {a0 a1 a3 : Option Value} {st : List Value} {σ : am_H} {Q : Option Value → am_H → Prop} : ax k_L_law 173 [a0, a1, some .null, a3] st σ Q = ax k_L_law 174 [a0, a1, some .null, a3] (.null :: st) σ Q := ru_loc (q := (_, _)) f_L_law_173 rfl rfl rfl
set_option maxRecDepth 100000 in
theorem f_L_law_174 : am_cd k_L_law 174 = some ((some .boolean), .aload_n 0, (0, 0, 0, 0, 0, .null)) := rfl
theorem s_L_law_174 {a1 a2 a3 : Option Value} {st : List Value} {σ : am_H} {Q : Option Value → am_H → Prop} {x : Nat} : ax k_L_law 174 [some (.ref x), a1, a2, a3] st σ Q = ax k_L_law 175 [some (.ref x), a1, a2, a3] (.ref x :: st) σ Q := ru_loc (q := (_, _)) f_L_law_174 rfl rfl rfl
set_option maxRecDepth 100000 in
theorem f_L_law_175 : am_cd k_L_law 175 = some ((some .boolean), .iload_n 3, (0, 0, 0, 0, 0, .null)) := rfl
theorem s_L_law_175 {a0 a1 a2 : Option Value} {st : List Value} {σ : am_H} {Q : Option Value → am_H → Prop} {x : Int32} : ax k_L_law 175 [a0, a1, a2, some (.int x)] st σ Q = ax k_L_law 176 [a0, a1, a2, some (.int x)] (.int x :: st) σ Q := ru_loc (q := (_, _)) f_L_law_175 rfl rfl rfl
set_option maxRecDepth 100000 in
theorem f_L_law_176 : am_cd k_L_law 176 = some ((some .boolean), .iconst 1, (0, 0, 0, 0, 0, .null)) := rfl
theorem s_L_law_176 {ls : am_L} {st : List Value} {σ : am_H} {Q : Option Value → am_H → Prop} : ax k_L_law 176 ls st σ Q = ax k_L_law 177 ls (.int 1 :: st) σ Q := ru_iconst f_L_law_176 (by decide +kernel) rfl
set_option maxRecDepth 100000 in
theorem f_L_law_177 : am_cd k_L_law 177 = some ((some .boolean), .iadd, (0, 0, 0, 0, 0, .null)) := rfl
theorem s_L_law_177 {ls : am_L} {st : List Value} {σ : am_H} {Q : Option Value → am_H → Prop} {x y : Int32} : ax k_L_law 177 ls (.int y :: .int x :: st) σ Q = ax k_L_law 178 ls (.int (x + y) :: st) σ Q := ru_pure f_L_law_177 rfl rfl
set_option maxRecDepth 100000 in
theorem f_L_law_178 : am_cd k_L_law 178 = some ((some .boolean), .iaload, (0, 0, 0, 0, 0, .null)) := rfl
theorem s_L_law_178 {ls : am_L} {st : List Value} {σ : am_H} {Q : Option Value → am_H → Prop} {a : Nat} {j : Int32} : ax k_L_law 178 ls (.int j :: .ref a :: st) σ Q = ax_f (am_j σ a) (fun q => q.1 = 0 ∧ am_ix j q.2.1 ∧ ax k_L_law 179 ls (.int (q.2.2 j.toNatClampNeg) :: st) σ Q) := rv_iald f_L_law_178 rfl
set_option maxRecDepth 100000 in
theorem f_L_law_179 : am_cd k_L_law 179 = some ((some .boolean), .invokevirtual 17, (117, 1, 1105, 0, 11, .null)) := rfl
theorem s_L_law_179 {ls : am_L} {st : List Value} {σ : am_H} {Q : Option Value → am_H → Prop} {p0 : Int32} {b : Nat} (hi : am_is σ b 11) (h8 : am_s8 st) : ax k_L_law 179 ls (.int p0 :: .ref b :: st) σ Q = ax k_M_minute 0 [some (.ref b), some (.int p0)] [] σ (ax_k k_L_law 182 ls st Q) := ru_vir (M' := rk_M_minute) f_L_law_179 rfl rfl rfl rfl hi h8 rfl rfl rfl rfl rfl
set_option maxRecDepth 100000 in
theorem f_L_law_182 : am_cd k_L_law 182 = some ((some .boolean), .if_icmp .eq 1208, (1390, 0, 0, 0, 0, .null)) := rfl
theorem s_L_law_182 {ls : am_L} {st : List Value} {σ : am_H} {Q : Option Value → am_H → Prop} {x y : Int32} : ax k_L_law 182 ls (.int y :: .int x :: st) σ Q = (if x = y then ax k_L_law 1390 ls st σ Q else ax k_L_law 185 ls st σ Q) := (ru_icmp f_L_law_182 rfl).trans (ru_i_eq _ _ _ _)
set_option maxRecDepth 100000 in
theorem f_L_law_185 : am_cd k_L_law 185 = some ((some .boolean), .iconst 0, (0, 0, 0, 0, 0, .null)) := rfl
theorem s_L_law_185 {ls : am_L} {st : List Value} {σ : am_H} {Q : Option Value → am_H → Prop} : ax k_L_law 185 ls st σ Q = ax k_L_law 186 ls (.int 0 :: st) σ Q := ru_iconst f_L_law_185 (by decide +kernel) rfl
set_option maxRecDepth 100000 in
theorem f_L_law_186 : am_cd k_L_law 186 = some ((some .boolean), .ireturn, (0, 0, 0, 0, 0, .null)) := rfl
theorem s_L_law_186 {ls : am_L} {σ : am_H} {Q : Option Value → am_H → Prop} {v : Int32} : ax k_L_law 186 ls ([.int v]) σ Q = (am_nar .boolean v = true ∧ Q (some (.int v)) σ) := ru_iret f_L_law_186
set_option maxRecDepth 100000 in
theorem f_L_law_187 : am_cd k_L_law 187 = some ((some .boolean), .aload_n 1, (0, 0, 0, 0, 0, .null)) := rfl
theorem s_L_law_187 {a0 a2 a3 : Option Value} {st : List Value} {σ : am_H} {Q : Option Value → am_H → Prop} {x : Nat} : ax k_L_law 187 [a0, some (.ref x), a2, a3] st σ Q = ax k_L_law 188 [a0, some (.ref x), a2, a3] (.ref x :: st) σ Q := ru_loc (q := (_, _)) f_L_law_187 rfl rfl rfl
theorem s_L_law_187n {a0 a2 a3 : Option Value} {st : List Value} {σ : am_H} {Q : Option Value → am_H → Prop} : ax k_L_law 187 [a0, some .null, a2, a3] st σ Q = ax k_L_law 188 [a0, some .null, a2, a3] (.null :: st) σ Q := ru_loc (q := (_, _)) f_L_law_187 rfl rfl rfl
set_option maxRecDepth 100000 in
theorem f_L_law_188 : am_cd k_L_law 188 = some ((some .boolean), .aload_n 0, (0, 0, 0, 0, 0, .null)) := rfl
theorem s_L_law_188 {a1 a2 a3 : Option Value} {st : List Value} {σ : am_H} {Q : Option Value → am_H → Prop} {x : Nat} : ax k_L_law 188 [some (.ref x), a1, a2, a3] st σ Q = ax k_L_law 189 [some (.ref x), a1, a2, a3] (.ref x :: st) σ Q := ru_loc (q := (_, _)) f_L_law_188 rfl rfl rfl
set_option maxRecDepth 100000 in
theorem f_L_law_189 : am_cd k_L_law 189 = some ((some .boolean), .iload_n 3, (0, 0, 0, 0, 0, .null)) := rfl
theorem s_L_law_189 {a0 a1 a2 : Option Value} {st : List Value} {σ : am_H} {Q : Option Value → am_H → Prop} {x : Int32} : ax k_L_law 189 [a0, a1, a2, some (.int x)] st σ Q = ax k_L_law 190 [a0, a1, a2, some (.int x)] (.int x :: st) σ Q := ru_loc (q := (_, _)) f_L_law_189 rfl rfl rfl
set_option maxRecDepth 100000 in
theorem f_L_law_190 : am_cd k_L_law 190 = some ((some .boolean), .iconst 1, (0, 0, 0, 0, 0, .null)) := rfl
theorem s_L_law_190 {ls : am_L} {st : List Value} {σ : am_H} {Q : Option Value → am_H → Prop} : ax k_L_law 190 ls st σ Q = ax k_L_law 191 ls (.int 1 :: st) σ Q := ru_iconst f_L_law_190 (by decide +kernel) rfl
set_option maxRecDepth 100000 in
theorem f_L_law_191 : am_cd k_L_law 191 = some ((some .boolean), .iadd, (0, 0, 0, 0, 0, .null)) := rfl
theorem s_L_law_191 {ls : am_L} {st : List Value} {σ : am_H} {Q : Option Value → am_H → Prop} {x y : Int32} : ax k_L_law 191 ls (.int y :: .int x :: st) σ Q = ax k_L_law 192 ls (.int (x + y) :: st) σ Q := ru_pure f_L_law_191 rfl rfl
set_option maxRecDepth 100000 in
theorem f_L_law_192 : am_cd k_L_law 192 = some ((some .boolean), .iaload, (0, 0, 0, 0, 0, .null)) := rfl
theorem s_L_law_192 {ls : am_L} {st : List Value} {σ : am_H} {Q : Option Value → am_H → Prop} {a : Nat} {j : Int32} : ax k_L_law 192 ls (.int j :: .ref a :: st) σ Q = ax_f (am_j σ a) (fun q => q.1 = 0 ∧ am_ix j q.2.1 ∧ ax k_L_law 193 ls (.int (q.2.2 j.toNatClampNeg) :: st) σ Q) := rv_iald f_L_law_192 rfl
set_option maxRecDepth 100000 in
theorem f_L_law_193 : am_cd k_L_law 193 = some ((some .boolean), .invokevirtual 18, (71, 1, 325, 0, 10, .null)) := rfl
theorem s_L_law_193 {ls : am_L} {st : List Value} {σ : am_H} {Q : Option Value → am_H → Prop} {p0 : Int32} {b : Nat} (hi : am_is σ b 10) (h8 : am_s8 st) : ax k_L_law 193 ls (.int p0 :: .ref b :: st) σ Q = ax k_A_word 0 [some (.ref b), some (.int p0)] [] σ (ax_k k_L_law 196 ls st Q) := ru_vir (M' := rk_A_word) f_L_law_193 rfl rfl rfl rfl hi h8 rfl rfl rfl rfl rfl
set_option maxRecDepth 100000 in
theorem f_L_law_196 : am_cd k_L_law 196 = some ((some .boolean), .aload_n 2, (0, 0, 0, 0, 0, .null)) := rfl
theorem s_L_law_196 {a0 a1 a3 : Option Value} {st : List Value} {σ : am_H} {Q : Option Value → am_H → Prop} {x : Nat} : ax k_L_law 196 [a0, a1, some (.ref x), a3] st σ Q = ax k_L_law 197 [a0, a1, some (.ref x), a3] (.ref x :: st) σ Q := ru_loc (q := (_, _)) f_L_law_196 rfl rfl rfl
theorem s_L_law_196n {a0 a1 a3 : Option Value} {st : List Value} {σ : am_H} {Q : Option Value → am_H → Prop} : ax k_L_law 196 [a0, a1, some .null, a3] st σ Q = ax k_L_law 197 [a0, a1, some .null, a3] (.null :: st) σ Q := ru_loc (q := (_, _)) f_L_law_196 rfl rfl rfl
set_option maxRecDepth 100000 in
theorem f_L_law_197 : am_cd k_L_law 197 = some ((some .boolean), .aload_n 0, (0, 0, 0, 0, 0, .null)) := rfl
theorem s_L_law_197 {a1 a2 a3 : Option Value} {st : List Value} {σ : am_H} {Q : Option Value → am_H → Prop} {x : Nat} : ax k_L_law 197 [some (.ref x), a1, a2, a3] st σ Q = ax k_L_law 198 [some (.ref x), a1, a2, a3] (.ref x :: st) σ Q := ru_loc (q := (_, _)) f_L_law_197 rfl rfl rfl
set_option maxRecDepth 100000 in
theorem f_L_law_198 : am_cd k_L_law 198 = some ((some .boolean), .iload_n 3, (0, 0, 0, 0, 0, .null)) := rfl
theorem s_L_law_198 {a0 a1 a2 : Option Value} {st : List Value} {σ : am_H} {Q : Option Value → am_H → Prop} {x : Int32} : ax k_L_law 198 [a0, a1, a2, some (.int x)] st σ Q = ax k_L_law 199 [a0, a1, a2, some (.int x)] (.int x :: st) σ Q := ru_loc (q := (_, _)) f_L_law_198 rfl rfl rfl
set_option maxRecDepth 100000 in
theorem f_L_law_199 : am_cd k_L_law 199 = some ((some .boolean), .iconst 1, (0, 0, 0, 0, 0, .null)) := rfl
theorem s_L_law_199 {ls : am_L} {st : List Value} {σ : am_H} {Q : Option Value → am_H → Prop} : ax k_L_law 199 ls st σ Q = ax k_L_law 200 ls (.int 1 :: st) σ Q := ru_iconst f_L_law_199 (by decide +kernel) rfl
set_option maxRecDepth 100000 in
theorem f_L_law_200 : am_cd k_L_law 200 = some ((some .boolean), .iadd, (0, 0, 0, 0, 0, .null)) := rfl
theorem s_L_law_200 {ls : am_L} {st : List Value} {σ : am_H} {Q : Option Value → am_H → Prop} {x y : Int32} : ax k_L_law 200 ls (.int y :: .int x :: st) σ Q = ax k_L_law 201 ls (.int (x + y) :: st) σ Q := ru_pure f_L_law_200 rfl rfl
set_option maxRecDepth 100000 in
theorem f_L_law_201 : am_cd k_L_law 201 = some ((some .boolean), .iaload, (0, 0, 0, 0, 0, .null)) := rfl
theorem s_L_law_201 {ls : am_L} {st : List Value} {σ : am_H} {Q : Option Value → am_H → Prop} {a : Nat} {j : Int32} : ax k_L_law 201 ls (.int j :: .ref a :: st) σ Q = ax_f (am_j σ a) (fun q => q.1 = 0 ∧ am_ix j q.2.1 ∧ ax k_L_law 202 ls (.int (q.2.2 j.toNatClampNeg) :: st) σ Q) := rv_iald f_L_law_201 rfl
set_option maxRecDepth 100000 in
theorem f_L_law_202 : am_cd k_L_law 202 = some ((some .boolean), .invokevirtual 22, (121, 1, 1113, 0, 11, .null)) := rfl
theorem s_L_law_202 {ls : am_L} {st : List Value} {σ : am_H} {Q : Option Value → am_H → Prop} {p0 : Int32} {b : Nat} (hi : am_is σ b 11) (h8 : am_s8 st) : ax k_L_law 202 ls (.int p0 :: .ref b :: st) σ Q = ax k_M_word 0 [some (.ref b), some (.int p0)] [] σ (ax_k k_L_law 205 ls st Q) := ru_vir (M' := rk_M_word) f_L_law_202 rfl rfl rfl rfl hi h8 rfl rfl rfl rfl rfl
set_option maxRecDepth 100000 in
theorem f_L_law_205 : am_cd k_L_law 205 = some ((some .boolean), .if_icmp .eq 1185, (1390, 0, 0, 0, 0, .null)) := rfl
theorem s_L_law_205 {ls : am_L} {st : List Value} {σ : am_H} {Q : Option Value → am_H → Prop} {x y : Int32} : ax k_L_law 205 ls (.int y :: .int x :: st) σ Q = (if x = y then ax k_L_law 1390 ls st σ Q else ax k_L_law 208 ls st σ Q) := (ru_icmp f_L_law_205 rfl).trans (ru_i_eq _ _ _ _)
set_option maxRecDepth 100000 in
theorem f_L_law_208 : am_cd k_L_law 208 = some ((some .boolean), .iconst 0, (0, 0, 0, 0, 0, .null)) := rfl
theorem s_L_law_208 {ls : am_L} {st : List Value} {σ : am_H} {Q : Option Value → am_H → Prop} : ax k_L_law 208 ls st σ Q = ax k_L_law 209 ls (.int 0 :: st) σ Q := ru_iconst f_L_law_208 (by decide +kernel) rfl
set_option maxRecDepth 100000 in
theorem f_L_law_209 : am_cd k_L_law 209 = some ((some .boolean), .ireturn, (0, 0, 0, 0, 0, .null)) := rfl
theorem s_L_law_209 {ls : am_L} {σ : am_H} {Q : Option Value → am_H → Prop} {v : Int32} : ax k_L_law 209 ls ([.int v]) σ Q = (am_nar .boolean v = true ∧ Q (some (.int v)) σ) := ru_iret f_L_law_209
set_option maxRecDepth 100000 in
theorem f_L_law_210 : am_cd k_L_law 210 = some ((some .boolean), .aload_n 1, (0, 0, 0, 0, 0, .null)) := rfl
theorem s_L_law_210 {a0 a2 a3 : Option Value} {st : List Value} {σ : am_H} {Q : Option Value → am_H → Prop} {x : Nat} : ax k_L_law 210 [a0, some (.ref x), a2, a3] st σ Q = ax k_L_law 211 [a0, some (.ref x), a2, a3] (.ref x :: st) σ Q := ru_loc (q := (_, _)) f_L_law_210 rfl rfl rfl
theorem s_L_law_210n {a0 a2 a3 : Option Value} {st : List Value} {σ : am_H} {Q : Option Value → am_H → Prop} : ax k_L_law 210 [a0, some .null, a2, a3] st σ Q = ax k_L_law 211 [a0, some .null, a2, a3] (.null :: st) σ Q := ru_loc (q := (_, _)) f_L_law_210 rfl rfl rfl
set_option maxRecDepth 100000 in
theorem f_L_law_211 : am_cd k_L_law 211 = some ((some .boolean), .aload_n 0, (0, 0, 0, 0, 0, .null)) := rfl
theorem s_L_law_211 {a1 a2 a3 : Option Value} {st : List Value} {σ : am_H} {Q : Option Value → am_H → Prop} {x : Nat} : ax k_L_law 211 [some (.ref x), a1, a2, a3] st σ Q = ax k_L_law 212 [some (.ref x), a1, a2, a3] (.ref x :: st) σ Q := ru_loc (q := (_, _)) f_L_law_211 rfl rfl rfl
set_option maxRecDepth 100000 in
theorem f_L_law_212 : am_cd k_L_law 212 = some ((some .boolean), .iload_n 3, (0, 0, 0, 0, 0, .null)) := rfl
theorem s_L_law_212 {a0 a1 a2 : Option Value} {st : List Value} {σ : am_H} {Q : Option Value → am_H → Prop} {x : Int32} : ax k_L_law 212 [a0, a1, a2, some (.int x)] st σ Q = ax k_L_law 213 [a0, a1, a2, some (.int x)] (.int x :: st) σ Q := ru_loc (q := (_, _)) f_L_law_212 rfl rfl rfl
set_option maxRecDepth 100000 in
theorem f_L_law_213 : am_cd k_L_law 213 = some ((some .boolean), .iconst 1, (0, 0, 0, 0, 0, .null)) := rfl
theorem s_L_law_213 {ls : am_L} {st : List Value} {σ : am_H} {Q : Option Value → am_H → Prop} : ax k_L_law 213 ls st σ Q = ax k_L_law 214 ls (.int 1 :: st) σ Q := ru_iconst f_L_law_213 (by decide +kernel) rfl
set_option maxRecDepth 100000 in
theorem f_L_law_214 : am_cd k_L_law 214 = some ((some .boolean), .iadd, (0, 0, 0, 0, 0, .null)) := rfl
theorem s_L_law_214 {ls : am_L} {st : List Value} {σ : am_H} {Q : Option Value → am_H → Prop} {x y : Int32} : ax k_L_law 214 ls (.int y :: .int x :: st) σ Q = ax k_L_law 215 ls (.int (x + y) :: st) σ Q := ru_pure f_L_law_214 rfl rfl
set_option maxRecDepth 100000 in
theorem f_L_law_215 : am_cd k_L_law 215 = some ((some .boolean), .iaload, (0, 0, 0, 0, 0, .null)) := rfl
theorem s_L_law_215 {ls : am_L} {st : List Value} {σ : am_H} {Q : Option Value → am_H → Prop} {a : Nat} {j : Int32} : ax k_L_law 215 ls (.int j :: .ref a :: st) σ Q = ax_f (am_j σ a) (fun q => q.1 = 0 ∧ am_ix j q.2.1 ∧ ax k_L_law 216 ls (.int (q.2.2 j.toNatClampNeg) :: st) σ Q) := rv_iald f_L_law_215 rfl
set_option maxRecDepth 100000 in
theorem f_L_law_216 : am_cd k_L_law 216 = some ((some .boolean), .aload_n 0, (0, 0, 0, 0, 0, .null)) := rfl
theorem s_L_law_216 {a1 a2 a3 : Option Value} {st : List Value} {σ : am_H} {Q : Option Value → am_H → Prop} {x : Nat} : ax k_L_law 216 [some (.ref x), a1, a2, a3] st σ Q = ax k_L_law 217 [some (.ref x), a1, a2, a3] (.ref x :: st) σ Q := ru_loc (q := (_, _)) f_L_law_216 rfl rfl rfl
set_option maxRecDepth 100000 in
theorem f_L_law_217 : am_cd k_L_law 217 = some ((some .boolean), .iload_n 3, (0, 0, 0, 0, 0, .null)) := rfl
theorem s_L_law_217 {a0 a1 a2 : Option Value} {st : List Value} {σ : am_H} {Q : Option Value → am_H → Prop} {x : Int32} : ax k_L_law 217 [a0, a1, a2, some (.int x)] st σ Q = ax k_L_law 218 [a0, a1, a2, some (.int x)] (.int x :: st) σ Q := ru_loc (q := (_, _)) f_L_law_217 rfl rfl rfl
set_option maxRecDepth 100000 in
theorem f_L_law_218 : am_cd k_L_law 218 = some ((some .boolean), .iconst 2, (0, 0, 0, 0, 0, .null)) := rfl
theorem s_L_law_218 {ls : am_L} {st : List Value} {σ : am_H} {Q : Option Value → am_H → Prop} : ax k_L_law 218 ls st σ Q = ax k_L_law 219 ls (.int 2 :: st) σ Q := ru_iconst f_L_law_218 (by decide +kernel) rfl
set_option maxRecDepth 100000 in
theorem f_L_law_219 : am_cd k_L_law 219 = some ((some .boolean), .iadd, (0, 0, 0, 0, 0, .null)) := rfl
theorem s_L_law_219 {ls : am_L} {st : List Value} {σ : am_H} {Q : Option Value → am_H → Prop} {x y : Int32} : ax k_L_law 219 ls (.int y :: .int x :: st) σ Q = ax k_L_law 220 ls (.int (x + y) :: st) σ Q := ru_pure f_L_law_219 rfl rfl
set_option maxRecDepth 100000 in
theorem f_L_law_220 : am_cd k_L_law 220 = some ((some .boolean), .iaload, (0, 0, 0, 0, 0, .null)) := rfl
theorem s_L_law_220 {ls : am_L} {st : List Value} {σ : am_H} {Q : Option Value → am_H → Prop} {a : Nat} {j : Int32} : ax k_L_law 220 ls (.int j :: .ref a :: st) σ Q = ax_f (am_j σ a) (fun q => q.1 = 0 ∧ am_ix j q.2.1 ∧ ax k_L_law 221 ls (.int (q.2.2 j.toNatClampNeg) :: st) σ Q) := rv_iald f_L_law_220 rfl
set_option maxRecDepth 100000 in
theorem f_L_law_221 : am_cd k_L_law 221 = some ((some .boolean), .invokevirtual 23, (72, 2, 341, 0, 10, .null)) := rfl
theorem s_L_law_221 {ls : am_L} {st : List Value} {σ : am_H} {Q : Option Value → am_H → Prop} {p0 : Int32} {p1 : Int32} {b : Nat} (hi : am_is σ b 10) (h8 : am_s8 st) : ax k_L_law 221 ls (.int p1 :: .int p0 :: .ref b :: st) σ Q = ax k_A_put 0 [some (.ref b), some (.int p0), some (.int p1)] [] σ (ax_k k_L_law 224 ls st Q) := ru_vir (M' := rk_A_put) f_L_law_221 rfl rfl rfl rfl hi h8 rfl rfl rfl rfl rfl
set_option maxRecDepth 100000 in
theorem f_L_law_224 : am_cd k_L_law 224 = some ((some .boolean), .aload_n 2, (0, 0, 0, 0, 0, .null)) := rfl
theorem s_L_law_224 {a0 a1 a3 : Option Value} {st : List Value} {σ : am_H} {Q : Option Value → am_H → Prop} {x : Nat} : ax k_L_law 224 [a0, a1, some (.ref x), a3] st σ Q = ax k_L_law 225 [a0, a1, some (.ref x), a3] (.ref x :: st) σ Q := ru_loc (q := (_, _)) f_L_law_224 rfl rfl rfl
theorem s_L_law_224n {a0 a1 a3 : Option Value} {st : List Value} {σ : am_H} {Q : Option Value → am_H → Prop} : ax k_L_law 224 [a0, a1, some .null, a3] st σ Q = ax k_L_law 225 [a0, a1, some .null, a3] (.null :: st) σ Q := ru_loc (q := (_, _)) f_L_law_224 rfl rfl rfl
set_option maxRecDepth 100000 in
theorem f_L_law_225 : am_cd k_L_law 225 = some ((some .boolean), .aload_n 0, (0, 0, 0, 0, 0, .null)) := rfl
theorem s_L_law_225 {a1 a2 a3 : Option Value} {st : List Value} {σ : am_H} {Q : Option Value → am_H → Prop} {x : Nat} : ax k_L_law 225 [some (.ref x), a1, a2, a3] st σ Q = ax k_L_law 226 [some (.ref x), a1, a2, a3] (.ref x :: st) σ Q := ru_loc (q := (_, _)) f_L_law_225 rfl rfl rfl
set_option maxRecDepth 100000 in
theorem f_L_law_226 : am_cd k_L_law 226 = some ((some .boolean), .iload_n 3, (0, 0, 0, 0, 0, .null)) := rfl
theorem s_L_law_226 {a0 a1 a2 : Option Value} {st : List Value} {σ : am_H} {Q : Option Value → am_H → Prop} {x : Int32} : ax k_L_law 226 [a0, a1, a2, some (.int x)] st σ Q = ax k_L_law 227 [a0, a1, a2, some (.int x)] (.int x :: st) σ Q := ru_loc (q := (_, _)) f_L_law_226 rfl rfl rfl
set_option maxRecDepth 100000 in
theorem f_L_law_227 : am_cd k_L_law 227 = some ((some .boolean), .iconst 1, (0, 0, 0, 0, 0, .null)) := rfl
theorem s_L_law_227 {ls : am_L} {st : List Value} {σ : am_H} {Q : Option Value → am_H → Prop} : ax k_L_law 227 ls st σ Q = ax k_L_law 228 ls (.int 1 :: st) σ Q := ru_iconst f_L_law_227 (by decide +kernel) rfl
set_option maxRecDepth 100000 in
theorem f_L_law_228 : am_cd k_L_law 228 = some ((some .boolean), .iadd, (0, 0, 0, 0, 0, .null)) := rfl
theorem s_L_law_228 {ls : am_L} {st : List Value} {σ : am_H} {Q : Option Value → am_H → Prop} {x y : Int32} : ax k_L_law 228 ls (.int y :: .int x :: st) σ Q = ax k_L_law 229 ls (.int (x + y) :: st) σ Q := ru_pure f_L_law_228 rfl rfl
set_option maxRecDepth 100000 in
theorem f_L_law_229 : am_cd k_L_law 229 = some ((some .boolean), .iaload, (0, 0, 0, 0, 0, .null)) := rfl
theorem s_L_law_229 {ls : am_L} {st : List Value} {σ : am_H} {Q : Option Value → am_H → Prop} {a : Nat} {j : Int32} : ax k_L_law 229 ls (.int j :: .ref a :: st) σ Q = ax_f (am_j σ a) (fun q => q.1 = 0 ∧ am_ix j q.2.1 ∧ ax k_L_law 230 ls (.int (q.2.2 j.toNatClampNeg) :: st) σ Q) := rv_iald f_L_law_229 rfl
set_option maxRecDepth 100000 in
theorem f_L_law_230 : am_cd k_L_law 230 = some ((some .boolean), .aload_n 0, (0, 0, 0, 0, 0, .null)) := rfl
theorem s_L_law_230 {a1 a2 a3 : Option Value} {st : List Value} {σ : am_H} {Q : Option Value → am_H → Prop} {x : Nat} : ax k_L_law 230 [some (.ref x), a1, a2, a3] st σ Q = ax k_L_law 231 [some (.ref x), a1, a2, a3] (.ref x :: st) σ Q := ru_loc (q := (_, _)) f_L_law_230 rfl rfl rfl
set_option maxRecDepth 100000 in
theorem f_L_law_231 : am_cd k_L_law 231 = some ((some .boolean), .iload_n 3, (0, 0, 0, 0, 0, .null)) := rfl
theorem s_L_law_231 {a0 a1 a2 : Option Value} {st : List Value} {σ : am_H} {Q : Option Value → am_H → Prop} {x : Int32} : ax k_L_law 231 [a0, a1, a2, some (.int x)] st σ Q = ax k_L_law 232 [a0, a1, a2, some (.int x)] (.int x :: st) σ Q := ru_loc (q := (_, _)) f_L_law_231 rfl rfl rfl
set_option maxRecDepth 100000 in
theorem f_L_law_232 : am_cd k_L_law 232 = some ((some .boolean), .iconst 2, (0, 0, 0, 0, 0, .null)) := rfl
theorem s_L_law_232 {ls : am_L} {st : List Value} {σ : am_H} {Q : Option Value → am_H → Prop} : ax k_L_law 232 ls st σ Q = ax k_L_law 233 ls (.int 2 :: st) σ Q := ru_iconst f_L_law_232 (by decide +kernel) rfl
set_option maxRecDepth 100000 in
theorem f_L_law_233 : am_cd k_L_law 233 = some ((some .boolean), .iadd, (0, 0, 0, 0, 0, .null)) := rfl
theorem s_L_law_233 {ls : am_L} {st : List Value} {σ : am_H} {Q : Option Value → am_H → Prop} {x y : Int32} : ax k_L_law 233 ls (.int y :: .int x :: st) σ Q = ax k_L_law 234 ls (.int (x + y) :: st) σ Q := ru_pure f_L_law_233 rfl rfl
set_option maxRecDepth 100000 in
theorem f_L_law_234 : am_cd k_L_law 234 = some ((some .boolean), .iaload, (0, 0, 0, 0, 0, .null)) := rfl
theorem s_L_law_234 {ls : am_L} {st : List Value} {σ : am_H} {Q : Option Value → am_H → Prop} {a : Nat} {j : Int32} : ax k_L_law 234 ls (.int j :: .ref a :: st) σ Q = ax_f (am_j σ a) (fun q => q.1 = 0 ∧ am_ix j q.2.1 ∧ ax k_L_law 235 ls (.int (q.2.2 j.toNatClampNeg) :: st) σ Q) := rv_iald f_L_law_234 rfl
set_option maxRecDepth 100000 in
theorem f_L_law_235 : am_cd k_L_law 235 = some ((some .boolean), .invokevirtual 27, (122, 2, 1125, 0, 11, .null)) := rfl
theorem s_L_law_235 {ls : am_L} {st : List Value} {σ : am_H} {Q : Option Value → am_H → Prop} {p0 : Int32} {p1 : Int32} {b : Nat} (hi : am_is σ b 11) (h8 : am_s8 st) : ax k_L_law 235 ls (.int p1 :: .int p0 :: .ref b :: st) σ Q = ax k_M_put 0 [some (.ref b), some (.int p0), some (.int p1)] [] σ (ax_k k_L_law 238 ls st Q) := ru_vir (M' := rk_M_put) f_L_law_235 rfl rfl rfl rfl hi h8 rfl rfl rfl rfl rfl
set_option maxRecDepth 100000 in
theorem f_L_law_238 : am_cd k_L_law 238 = some ((some .boolean), .if_icmp .eq 1152, (1390, 0, 0, 0, 0, .null)) := rfl
theorem s_L_law_238 {ls : am_L} {st : List Value} {σ : am_H} {Q : Option Value → am_H → Prop} {x y : Int32} : ax k_L_law 238 ls (.int y :: .int x :: st) σ Q = (if x = y then ax k_L_law 1390 ls st σ Q else ax k_L_law 241 ls st σ Q) := (ru_icmp f_L_law_238 rfl).trans (ru_i_eq _ _ _ _)
set_option maxRecDepth 100000 in
theorem f_L_law_241 : am_cd k_L_law 241 = some ((some .boolean), .iconst 0, (0, 0, 0, 0, 0, .null)) := rfl
theorem s_L_law_241 {ls : am_L} {st : List Value} {σ : am_H} {Q : Option Value → am_H → Prop} : ax k_L_law 241 ls st σ Q = ax k_L_law 242 ls (.int 0 :: st) σ Q := ru_iconst f_L_law_241 (by decide +kernel) rfl
set_option maxRecDepth 100000 in
theorem f_L_law_242 : am_cd k_L_law 242 = some ((some .boolean), .ireturn, (0, 0, 0, 0, 0, .null)) := rfl
theorem s_L_law_242 {ls : am_L} {σ : am_H} {Q : Option Value → am_H → Prop} {v : Int32} : ax k_L_law 242 ls ([.int v]) σ Q = (am_nar .boolean v = true ∧ Q (some (.int v)) σ) := ru_iret f_L_law_242
set_option maxRecDepth 100000 in
theorem f_L_law_243 : am_cd k_L_law 243 = some ((some .boolean), .aload_n 1, (0, 0, 0, 0, 0, .null)) := rfl
theorem s_L_law_243 {a0 a2 a3 : Option Value} {st : List Value} {σ : am_H} {Q : Option Value → am_H → Prop} {x : Nat} : ax k_L_law 243 [a0, some (.ref x), a2, a3] st σ Q = ax k_L_law 244 [a0, some (.ref x), a2, a3] (.ref x :: st) σ Q := ru_loc (q := (_, _)) f_L_law_243 rfl rfl rfl
theorem s_L_law_243n {a0 a2 a3 : Option Value} {st : List Value} {σ : am_H} {Q : Option Value → am_H → Prop} : ax k_L_law 243 [a0, some .null, a2, a3] st σ Q = ax k_L_law 244 [a0, some .null, a2, a3] (.null :: st) σ Q := ru_loc (q := (_, _)) f_L_law_243 rfl rfl rfl
set_option maxRecDepth 100000 in
theorem f_L_law_244 : am_cd k_L_law 244 = some ((some .boolean), .aload_n 0, (0, 0, 0, 0, 0, .null)) := rfl
theorem s_L_law_244 {a1 a2 a3 : Option Value} {st : List Value} {σ : am_H} {Q : Option Value → am_H → Prop} {x : Nat} : ax k_L_law 244 [some (.ref x), a1, a2, a3] st σ Q = ax k_L_law 245 [some (.ref x), a1, a2, a3] (.ref x :: st) σ Q := ru_loc (q := (_, _)) f_L_law_244 rfl rfl rfl
set_option maxRecDepth 100000 in
theorem f_L_law_245 : am_cd k_L_law 245 = some ((some .boolean), .iload_n 3, (0, 0, 0, 0, 0, .null)) := rfl
theorem s_L_law_245 {a0 a1 a2 : Option Value} {st : List Value} {σ : am_H} {Q : Option Value → am_H → Prop} {x : Int32} : ax k_L_law 245 [a0, a1, a2, some (.int x)] st σ Q = ax k_L_law 246 [a0, a1, a2, some (.int x)] (.int x :: st) σ Q := ru_loc (q := (_, _)) f_L_law_245 rfl rfl rfl
set_option maxRecDepth 100000 in
theorem f_L_law_246 : am_cd k_L_law 246 = some ((some .boolean), .iconst 1, (0, 0, 0, 0, 0, .null)) := rfl
theorem s_L_law_246 {ls : am_L} {st : List Value} {σ : am_H} {Q : Option Value → am_H → Prop} : ax k_L_law 246 ls st σ Q = ax k_L_law 247 ls (.int 1 :: st) σ Q := ru_iconst f_L_law_246 (by decide +kernel) rfl
set_option maxRecDepth 100000 in
theorem f_L_law_247 : am_cd k_L_law 247 = some ((some .boolean), .iadd, (0, 0, 0, 0, 0, .null)) := rfl
theorem s_L_law_247 {ls : am_L} {st : List Value} {σ : am_H} {Q : Option Value → am_H → Prop} {x y : Int32} : ax k_L_law 247 ls (.int y :: .int x :: st) σ Q = ax k_L_law 248 ls (.int (x + y) :: st) σ Q := ru_pure f_L_law_247 rfl rfl
set_option maxRecDepth 100000 in
theorem f_L_law_248 : am_cd k_L_law 248 = some ((some .boolean), .iaload, (0, 0, 0, 0, 0, .null)) := rfl
theorem s_L_law_248 {ls : am_L} {st : List Value} {σ : am_H} {Q : Option Value → am_H → Prop} {a : Nat} {j : Int32} : ax k_L_law 248 ls (.int j :: .ref a :: st) σ Q = ax_f (am_j σ a) (fun q => q.1 = 0 ∧ am_ix j q.2.1 ∧ ax k_L_law 249 ls (.int (q.2.2 j.toNatClampNeg) :: st) σ Q) := rv_iald f_L_law_248 rfl
set_option maxRecDepth 100000 in
theorem f_L_law_249 : am_cd k_L_law 249 = some ((some .boolean), .aload_n 0, (0, 0, 0, 0, 0, .null)) := rfl
theorem s_L_law_249 {a1 a2 a3 : Option Value} {st : List Value} {σ : am_H} {Q : Option Value → am_H → Prop} {x : Nat} : ax k_L_law 249 [some (.ref x), a1, a2, a3] st σ Q = ax k_L_law 250 [some (.ref x), a1, a2, a3] (.ref x :: st) σ Q := ru_loc (q := (_, _)) f_L_law_249 rfl rfl rfl
set_option maxRecDepth 100000 in
theorem f_L_law_250 : am_cd k_L_law 250 = some ((some .boolean), .iload_n 3, (0, 0, 0, 0, 0, .null)) := rfl
theorem s_L_law_250 {a0 a1 a2 : Option Value} {st : List Value} {σ : am_H} {Q : Option Value → am_H → Prop} {x : Int32} : ax k_L_law 250 [a0, a1, a2, some (.int x)] st σ Q = ax k_L_law 251 [a0, a1, a2, some (.int x)] (.int x :: st) σ Q := ru_loc (q := (_, _)) f_L_law_250 rfl rfl rfl
set_option maxRecDepth 100000 in
theorem f_L_law_251 : am_cd k_L_law 251 = some ((some .boolean), .iconst 2, (0, 0, 0, 0, 0, .null)) := rfl
theorem s_L_law_251 {ls : am_L} {st : List Value} {σ : am_H} {Q : Option Value → am_H → Prop} : ax k_L_law 251 ls st σ Q = ax k_L_law 252 ls (.int 2 :: st) σ Q := ru_iconst f_L_law_251 (by decide +kernel) rfl
set_option maxRecDepth 100000 in
theorem f_L_law_252 : am_cd k_L_law 252 = some ((some .boolean), .iadd, (0, 0, 0, 0, 0, .null)) := rfl
theorem s_L_law_252 {ls : am_L} {st : List Value} {σ : am_H} {Q : Option Value → am_H → Prop} {x y : Int32} : ax k_L_law 252 ls (.int y :: .int x :: st) σ Q = ax k_L_law 253 ls (.int (x + y) :: st) σ Q := ru_pure f_L_law_252 rfl rfl
set_option maxRecDepth 100000 in
theorem f_L_law_253 : am_cd k_L_law 253 = some ((some .boolean), .iaload, (0, 0, 0, 0, 0, .null)) := rfl
theorem s_L_law_253 {ls : am_L} {st : List Value} {σ : am_H} {Q : Option Value → am_H → Prop} {a : Nat} {j : Int32} : ax k_L_law 253 ls (.int j :: .ref a :: st) σ Q = ax_f (am_j σ a) (fun q => q.1 = 0 ∧ am_ix j q.2.1 ∧ ax k_L_law 254 ls (.int (q.2.2 j.toNatClampNeg) :: st) σ Q) := rv_iald f_L_law_253 rfl
set_option maxRecDepth 100000 in
theorem f_L_law_254 : am_cd k_L_law 254 = some ((some .boolean), .invokevirtual 28, (73, 2, 380, 0, 10, .null)) := rfl
theorem s_L_law_254 {ls : am_L} {st : List Value} {σ : am_H} {Q : Option Value → am_H → Prop} {p0 : Int32} {p1 : Int32} {b : Nat} (hi : am_is σ b 10) (h8 : am_s8 st) : ax k_L_law 254 ls (.int p1 :: .int p0 :: .ref b :: st) σ Q = ax k_A_within 0 [some (.ref b), some (.int p0), some (.int p1)] [] σ (ax_k k_L_law 257 ls st Q) := ru_vir (M' := rk_A_within) f_L_law_254 rfl rfl rfl rfl hi h8 rfl rfl rfl rfl rfl
set_option maxRecDepth 100000 in
theorem f_L_law_257 : am_cd k_L_law 257 = some ((some .boolean), .aload_n 2, (0, 0, 0, 0, 0, .null)) := rfl
theorem s_L_law_257 {a0 a1 a3 : Option Value} {st : List Value} {σ : am_H} {Q : Option Value → am_H → Prop} {x : Nat} : ax k_L_law 257 [a0, a1, some (.ref x), a3] st σ Q = ax k_L_law 258 [a0, a1, some (.ref x), a3] (.ref x :: st) σ Q := ru_loc (q := (_, _)) f_L_law_257 rfl rfl rfl
theorem s_L_law_257n {a0 a1 a3 : Option Value} {st : List Value} {σ : am_H} {Q : Option Value → am_H → Prop} : ax k_L_law 257 [a0, a1, some .null, a3] st σ Q = ax k_L_law 258 [a0, a1, some .null, a3] (.null :: st) σ Q := ru_loc (q := (_, _)) f_L_law_257 rfl rfl rfl
set_option maxRecDepth 100000 in
theorem f_L_law_258 : am_cd k_L_law 258 = some ((some .boolean), .aload_n 0, (0, 0, 0, 0, 0, .null)) := rfl
theorem s_L_law_258 {a1 a2 a3 : Option Value} {st : List Value} {σ : am_H} {Q : Option Value → am_H → Prop} {x : Nat} : ax k_L_law 258 [some (.ref x), a1, a2, a3] st σ Q = ax k_L_law 259 [some (.ref x), a1, a2, a3] (.ref x :: st) σ Q := ru_loc (q := (_, _)) f_L_law_258 rfl rfl rfl
set_option maxRecDepth 100000 in
theorem f_L_law_259 : am_cd k_L_law 259 = some ((some .boolean), .iload_n 3, (0, 0, 0, 0, 0, .null)) := rfl
theorem s_L_law_259 {a0 a1 a2 : Option Value} {st : List Value} {σ : am_H} {Q : Option Value → am_H → Prop} {x : Int32} : ax k_L_law 259 [a0, a1, a2, some (.int x)] st σ Q = ax k_L_law 260 [a0, a1, a2, some (.int x)] (.int x :: st) σ Q := ru_loc (q := (_, _)) f_L_law_259 rfl rfl rfl
set_option maxRecDepth 100000 in
theorem f_L_law_260 : am_cd k_L_law 260 = some ((some .boolean), .iconst 1, (0, 0, 0, 0, 0, .null)) := rfl
theorem s_L_law_260 {ls : am_L} {st : List Value} {σ : am_H} {Q : Option Value → am_H → Prop} : ax k_L_law 260 ls st σ Q = ax k_L_law 261 ls (.int 1 :: st) σ Q := ru_iconst f_L_law_260 (by decide +kernel) rfl
set_option maxRecDepth 100000 in
theorem f_L_law_261 : am_cd k_L_law 261 = some ((some .boolean), .iadd, (0, 0, 0, 0, 0, .null)) := rfl
theorem s_L_law_261 {ls : am_L} {st : List Value} {σ : am_H} {Q : Option Value → am_H → Prop} {x y : Int32} : ax k_L_law 261 ls (.int y :: .int x :: st) σ Q = ax k_L_law 262 ls (.int (x + y) :: st) σ Q := ru_pure f_L_law_261 rfl rfl
set_option maxRecDepth 100000 in
theorem f_L_law_262 : am_cd k_L_law 262 = some ((some .boolean), .iaload, (0, 0, 0, 0, 0, .null)) := rfl
theorem s_L_law_262 {ls : am_L} {st : List Value} {σ : am_H} {Q : Option Value → am_H → Prop} {a : Nat} {j : Int32} : ax k_L_law 262 ls (.int j :: .ref a :: st) σ Q = ax_f (am_j σ a) (fun q => q.1 = 0 ∧ am_ix j q.2.1 ∧ ax k_L_law 263 ls (.int (q.2.2 j.toNatClampNeg) :: st) σ Q) := rv_iald f_L_law_262 rfl
set_option maxRecDepth 100000 in
theorem f_L_law_263 : am_cd k_L_law 263 = some ((some .boolean), .aload_n 0, (0, 0, 0, 0, 0, .null)) := rfl
theorem s_L_law_263 {a1 a2 a3 : Option Value} {st : List Value} {σ : am_H} {Q : Option Value → am_H → Prop} {x : Nat} : ax k_L_law 263 [some (.ref x), a1, a2, a3] st σ Q = ax k_L_law 264 [some (.ref x), a1, a2, a3] (.ref x :: st) σ Q := ru_loc (q := (_, _)) f_L_law_263 rfl rfl rfl
set_option maxRecDepth 100000 in
theorem f_L_law_264 : am_cd k_L_law 264 = some ((some .boolean), .iload_n 3, (0, 0, 0, 0, 0, .null)) := rfl
theorem s_L_law_264 {a0 a1 a2 : Option Value} {st : List Value} {σ : am_H} {Q : Option Value → am_H → Prop} {x : Int32} : ax k_L_law 264 [a0, a1, a2, some (.int x)] st σ Q = ax k_L_law 265 [a0, a1, a2, some (.int x)] (.int x :: st) σ Q := ru_loc (q := (_, _)) f_L_law_264 rfl rfl rfl
set_option maxRecDepth 100000 in
theorem f_L_law_265 : am_cd k_L_law 265 = some ((some .boolean), .iconst 2, (0, 0, 0, 0, 0, .null)) := rfl
theorem s_L_law_265 {ls : am_L} {st : List Value} {σ : am_H} {Q : Option Value → am_H → Prop} : ax k_L_law 265 ls st σ Q = ax k_L_law 266 ls (.int 2 :: st) σ Q := ru_iconst f_L_law_265 (by decide +kernel) rfl
set_option maxRecDepth 100000 in
theorem f_L_law_266 : am_cd k_L_law 266 = some ((some .boolean), .iadd, (0, 0, 0, 0, 0, .null)) := rfl
theorem s_L_law_266 {ls : am_L} {st : List Value} {σ : am_H} {Q : Option Value → am_H → Prop} {x y : Int32} : ax k_L_law 266 ls (.int y :: .int x :: st) σ Q = ax k_L_law 267 ls (.int (x + y) :: st) σ Q := ru_pure f_L_law_266 rfl rfl
set_option maxRecDepth 100000 in
theorem f_L_law_267 : am_cd k_L_law 267 = some ((some .boolean), .iaload, (0, 0, 0, 0, 0, .null)) := rfl
theorem s_L_law_267 {ls : am_L} {st : List Value} {σ : am_H} {Q : Option Value → am_H → Prop} {a : Nat} {j : Int32} : ax k_L_law 267 ls (.int j :: .ref a :: st) σ Q = ax_f (am_j σ a) (fun q => q.1 = 0 ∧ am_ix j q.2.1 ∧ ax k_L_law 268 ls (.int (q.2.2 j.toNatClampNeg) :: st) σ Q) := rv_iald f_L_law_267 rfl
set_option maxRecDepth 100000 in
theorem f_L_law_268 : am_cd k_L_law 268 = some ((some .boolean), .invokevirtual 32, (123, 2, 1137, 0, 11, .null)) := rfl
theorem s_L_law_268 {ls : am_L} {st : List Value} {σ : am_H} {Q : Option Value → am_H → Prop} {p0 : Int32} {p1 : Int32} {b : Nat} (hi : am_is σ b 11) (h8 : am_s8 st) : ax k_L_law 268 ls (.int p1 :: .int p0 :: .ref b :: st) σ Q = ax k_M_within 0 [some (.ref b), some (.int p0), some (.int p1)] [] σ (ax_k k_L_law 271 ls st Q) := ru_vir (M' := rk_M_within) f_L_law_268 rfl rfl rfl rfl hi h8 rfl rfl rfl rfl rfl
set_option maxRecDepth 100000 in
theorem f_L_law_271 : am_cd k_L_law 271 = some ((some .boolean), .if_icmp .eq 1119, (1390, 0, 0, 0, 0, .null)) := rfl
theorem s_L_law_271 {ls : am_L} {st : List Value} {σ : am_H} {Q : Option Value → am_H → Prop} {x y : Int32} : ax k_L_law 271 ls (.int y :: .int x :: st) σ Q = (if x = y then ax k_L_law 1390 ls st σ Q else ax k_L_law 274 ls st σ Q) := (ru_icmp f_L_law_271 rfl).trans (ru_i_eq _ _ _ _)
set_option maxRecDepth 100000 in
theorem f_L_law_274 : am_cd k_L_law 274 = some ((some .boolean), .iconst 0, (0, 0, 0, 0, 0, .null)) := rfl
theorem s_L_law_274 {ls : am_L} {st : List Value} {σ : am_H} {Q : Option Value → am_H → Prop} : ax k_L_law 274 ls st σ Q = ax k_L_law 275 ls (.int 0 :: st) σ Q := ru_iconst f_L_law_274 (by decide +kernel) rfl
set_option maxRecDepth 100000 in
theorem f_L_law_275 : am_cd k_L_law 275 = some ((some .boolean), .ireturn, (0, 0, 0, 0, 0, .null)) := rfl
theorem s_L_law_275 {ls : am_L} {σ : am_H} {Q : Option Value → am_H → Prop} {v : Int32} : ax k_L_law 275 ls ([.int v]) σ Q = (am_nar .boolean v = true ∧ Q (some (.int v)) σ) := ru_iret f_L_law_275
set_option maxRecDepth 100000 in
theorem f_L_law_276 : am_cd k_L_law 276 = some ((some .boolean), .aload_n 1, (0, 0, 0, 0, 0, .null)) := rfl
theorem s_L_law_276 {a0 a2 a3 : Option Value} {st : List Value} {σ : am_H} {Q : Option Value → am_H → Prop} {x : Nat} : ax k_L_law 276 [a0, some (.ref x), a2, a3] st σ Q = ax k_L_law 277 [a0, some (.ref x), a2, a3] (.ref x :: st) σ Q := ru_loc (q := (_, _)) f_L_law_276 rfl rfl rfl
theorem s_L_law_276n {a0 a2 a3 : Option Value} {st : List Value} {σ : am_H} {Q : Option Value → am_H → Prop} : ax k_L_law 276 [a0, some .null, a2, a3] st σ Q = ax k_L_law 277 [a0, some .null, a2, a3] (.null :: st) σ Q := ru_loc (q := (_, _)) f_L_law_276 rfl rfl rfl
set_option maxRecDepth 100000 in
theorem f_L_law_277 : am_cd k_L_law 277 = some ((some .boolean), .aload_n 0, (0, 0, 0, 0, 0, .null)) := rfl
theorem s_L_law_277 {a1 a2 a3 : Option Value} {st : List Value} {σ : am_H} {Q : Option Value → am_H → Prop} {x : Nat} : ax k_L_law 277 [some (.ref x), a1, a2, a3] st σ Q = ax k_L_law 278 [some (.ref x), a1, a2, a3] (.ref x :: st) σ Q := ru_loc (q := (_, _)) f_L_law_277 rfl rfl rfl
set_option maxRecDepth 100000 in
theorem f_L_law_278 : am_cd k_L_law 278 = some ((some .boolean), .iload_n 3, (0, 0, 0, 0, 0, .null)) := rfl
theorem s_L_law_278 {a0 a1 a2 : Option Value} {st : List Value} {σ : am_H} {Q : Option Value → am_H → Prop} {x : Int32} : ax k_L_law 278 [a0, a1, a2, some (.int x)] st σ Q = ax k_L_law 279 [a0, a1, a2, some (.int x)] (.int x :: st) σ Q := ru_loc (q := (_, _)) f_L_law_278 rfl rfl rfl
set_option maxRecDepth 100000 in
theorem f_L_law_279 : am_cd k_L_law 279 = some ((some .boolean), .iconst 1, (0, 0, 0, 0, 0, .null)) := rfl
theorem s_L_law_279 {ls : am_L} {st : List Value} {σ : am_H} {Q : Option Value → am_H → Prop} : ax k_L_law 279 ls st σ Q = ax k_L_law 280 ls (.int 1 :: st) σ Q := ru_iconst f_L_law_279 (by decide +kernel) rfl
set_option maxRecDepth 100000 in
theorem f_L_law_280 : am_cd k_L_law 280 = some ((some .boolean), .iadd, (0, 0, 0, 0, 0, .null)) := rfl
theorem s_L_law_280 {ls : am_L} {st : List Value} {σ : am_H} {Q : Option Value → am_H → Prop} {x y : Int32} : ax k_L_law 280 ls (.int y :: .int x :: st) σ Q = ax k_L_law 281 ls (.int (x + y) :: st) σ Q := ru_pure f_L_law_280 rfl rfl
set_option maxRecDepth 100000 in
theorem f_L_law_281 : am_cd k_L_law 281 = some ((some .boolean), .iaload, (0, 0, 0, 0, 0, .null)) := rfl
theorem s_L_law_281 {ls : am_L} {st : List Value} {σ : am_H} {Q : Option Value → am_H → Prop} {a : Nat} {j : Int32} : ax k_L_law 281 ls (.int j :: .ref a :: st) σ Q = ax_f (am_j σ a) (fun q => q.1 = 0 ∧ am_ix j q.2.1 ∧ ax k_L_law 282 ls (.int (q.2.2 j.toNatClampNeg) :: st) σ Q) := rv_iald f_L_law_281 rfl
set_option maxRecDepth 100000 in
theorem f_L_law_282 : am_cd k_L_law 282 = some ((some .boolean), .aload_n 0, (0, 0, 0, 0, 0, .null)) := rfl
theorem s_L_law_282 {a1 a2 a3 : Option Value} {st : List Value} {σ : am_H} {Q : Option Value → am_H → Prop} {x : Nat} : ax k_L_law 282 [some (.ref x), a1, a2, a3] st σ Q = ax k_L_law 283 [some (.ref x), a1, a2, a3] (.ref x :: st) σ Q := ru_loc (q := (_, _)) f_L_law_282 rfl rfl rfl
set_option maxRecDepth 100000 in
theorem f_L_law_283 : am_cd k_L_law 283 = some ((some .boolean), .iload_n 3, (0, 0, 0, 0, 0, .null)) := rfl
theorem s_L_law_283 {a0 a1 a2 : Option Value} {st : List Value} {σ : am_H} {Q : Option Value → am_H → Prop} {x : Int32} : ax k_L_law 283 [a0, a1, a2, some (.int x)] st σ Q = ax k_L_law 284 [a0, a1, a2, some (.int x)] (.int x :: st) σ Q := ru_loc (q := (_, _)) f_L_law_283 rfl rfl rfl
set_option maxRecDepth 100000 in
theorem f_L_law_284 : am_cd k_L_law 284 = some ((some .boolean), .iconst 2, (0, 0, 0, 0, 0, .null)) := rfl
theorem s_L_law_284 {ls : am_L} {st : List Value} {σ : am_H} {Q : Option Value → am_H → Prop} : ax k_L_law 284 ls st σ Q = ax k_L_law 285 ls (.int 2 :: st) σ Q := ru_iconst f_L_law_284 (by decide +kernel) rfl
set_option maxRecDepth 100000 in
theorem f_L_law_285 : am_cd k_L_law 285 = some ((some .boolean), .iadd, (0, 0, 0, 0, 0, .null)) := rfl
theorem s_L_law_285 {ls : am_L} {st : List Value} {σ : am_H} {Q : Option Value → am_H → Prop} {x y : Int32} : ax k_L_law 285 ls (.int y :: .int x :: st) σ Q = ax k_L_law 286 ls (.int (x + y) :: st) σ Q := ru_pure f_L_law_285 rfl rfl
set_option maxRecDepth 100000 in
theorem f_L_law_286 : am_cd k_L_law 286 = some ((some .boolean), .iaload, (0, 0, 0, 0, 0, .null)) := rfl
theorem s_L_law_286 {ls : am_L} {st : List Value} {σ : am_H} {Q : Option Value → am_H → Prop} {a : Nat} {j : Int32} : ax k_L_law 286 ls (.int j :: .ref a :: st) σ Q = ax_f (am_j σ a) (fun q => q.1 = 0 ∧ am_ix j q.2.1 ∧ ax k_L_law 287 ls (.int (q.2.2 j.toNatClampNeg) :: st) σ Q) := rv_iald f_L_law_286 rfl
set_option maxRecDepth 100000 in
theorem f_L_law_287 : am_cd k_L_law 287 = some ((some .boolean), .aload_n 0, (0, 0, 0, 0, 0, .null)) := rfl
theorem s_L_law_287 {a1 a2 a3 : Option Value} {st : List Value} {σ : am_H} {Q : Option Value → am_H → Prop} {x : Nat} : ax k_L_law 287 [some (.ref x), a1, a2, a3] st σ Q = ax k_L_law 288 [some (.ref x), a1, a2, a3] (.ref x :: st) σ Q := ru_loc (q := (_, _)) f_L_law_287 rfl rfl rfl
set_option maxRecDepth 100000 in
theorem f_L_law_288 : am_cd k_L_law 288 = some ((some .boolean), .iload_n 3, (0, 0, 0, 0, 0, .null)) := rfl
theorem s_L_law_288 {a0 a1 a2 : Option Value} {st : List Value} {σ : am_H} {Q : Option Value → am_H → Prop} {x : Int32} : ax k_L_law 288 [a0, a1, a2, some (.int x)] st σ Q = ax k_L_law 289 [a0, a1, a2, some (.int x)] (.int x :: st) σ Q := ru_loc (q := (_, _)) f_L_law_288 rfl rfl rfl
set_option maxRecDepth 100000 in
theorem f_L_law_289 : am_cd k_L_law 289 = some ((some .boolean), .iconst 3, (0, 0, 0, 0, 0, .null)) := rfl
theorem s_L_law_289 {ls : am_L} {st : List Value} {σ : am_H} {Q : Option Value → am_H → Prop} : ax k_L_law 289 ls st σ Q = ax k_L_law 290 ls (.int 3 :: st) σ Q := ru_iconst f_L_law_289 (by decide +kernel) rfl
set_option maxRecDepth 100000 in
theorem f_L_law_290 : am_cd k_L_law 290 = some ((some .boolean), .iadd, (0, 0, 0, 0, 0, .null)) := rfl
theorem s_L_law_290 {ls : am_L} {st : List Value} {σ : am_H} {Q : Option Value → am_H → Prop} {x y : Int32} : ax k_L_law 290 ls (.int y :: .int x :: st) σ Q = ax k_L_law 291 ls (.int (x + y) :: st) σ Q := ru_pure f_L_law_290 rfl rfl
set_option maxRecDepth 100000 in
theorem f_L_law_291 : am_cd k_L_law 291 = some ((some .boolean), .iaload, (0, 0, 0, 0, 0, .null)) := rfl
theorem s_L_law_291 {ls : am_L} {st : List Value} {σ : am_H} {Q : Option Value → am_H → Prop} {a : Nat} {j : Int32} : ax k_L_law 291 ls (.int j :: .ref a :: st) σ Q = ax_f (am_j σ a) (fun q => q.1 = 0 ∧ am_ix j q.2.1 ∧ ax k_L_law 292 ls (.int (q.2.2 j.toNatClampNeg) :: st) σ Q) := rv_iald f_L_law_291 rfl
set_option maxRecDepth 100000 in
theorem f_L_law_292 : am_cd k_L_law 292 = some ((some .boolean), .i2l, (0, 0, 0, 0, 0, .null)) := rfl
theorem s_L_law_292 {ls : am_L} {st : List Value} {σ : am_H} {Q : Option Value → am_H → Prop} {x : Int32} : ax k_L_law 292 ls (.int x :: st) σ Q = ax k_L_law 293 ls (.long x.toInt64 :: st) σ Q := ru_pure f_L_law_292 rfl rfl
set_option maxRecDepth 100000 in
theorem f_L_law_293 : am_cd k_L_law 293 = some ((some .boolean), .bipush 32, (0, 0, 0, 0, 0, .null)) := rfl
theorem s_L_law_293 {ls : am_L} {st : List Value} {σ : am_H} {Q : Option Value → am_H → Prop} : ax k_L_law 293 ls st σ Q = ax k_L_law 295 ls (.int 32 :: st) σ Q := ru_bipush f_L_law_293 (by decide +kernel) rfl
set_option maxRecDepth 100000 in
theorem f_L_law_295 : am_cd k_L_law 295 = some ((some .boolean), .lshl, (0, 0, 0, 0, 0, .null)) := rfl
theorem s_L_law_295 {ls : am_L} {st : List Value} {σ : am_H} {Q : Option Value → am_H → Prop} {x : Int64} {y : Int32} : ax k_L_law 295 ls (.int y :: .long x :: st) σ Q = ax k_L_law 296 ls (.long (x <<< (y.toInt64 &&& 63)) :: st) σ Q := ru_pure f_L_law_295 rfl rfl
set_option maxRecDepth 100000 in
theorem f_L_law_296 : am_cd k_L_law 296 = some ((some .boolean), .aload_n 0, (0, 0, 0, 0, 0, .null)) := rfl
theorem s_L_law_296 {a1 a2 a3 : Option Value} {st : List Value} {σ : am_H} {Q : Option Value → am_H → Prop} {x : Nat} : ax k_L_law 296 [some (.ref x), a1, a2, a3] st σ Q = ax k_L_law 297 [some (.ref x), a1, a2, a3] (.ref x :: st) σ Q := ru_loc (q := (_, _)) f_L_law_296 rfl rfl rfl
set_option maxRecDepth 100000 in
theorem f_L_law_297 : am_cd k_L_law 297 = some ((some .boolean), .iload_n 3, (0, 0, 0, 0, 0, .null)) := rfl
theorem s_L_law_297 {a0 a1 a2 : Option Value} {st : List Value} {σ : am_H} {Q : Option Value → am_H → Prop} {x : Int32} : ax k_L_law 297 [a0, a1, a2, some (.int x)] st σ Q = ax k_L_law 298 [a0, a1, a2, some (.int x)] (.int x :: st) σ Q := ru_loc (q := (_, _)) f_L_law_297 rfl rfl rfl
set_option maxRecDepth 100000 in
theorem f_L_law_298 : am_cd k_L_law 298 = some ((some .boolean), .iconst 4, (0, 0, 0, 0, 0, .null)) := rfl
theorem s_L_law_298 {ls : am_L} {st : List Value} {σ : am_H} {Q : Option Value → am_H → Prop} : ax k_L_law 298 ls st σ Q = ax k_L_law 299 ls (.int 4 :: st) σ Q := ru_iconst f_L_law_298 (by decide +kernel) rfl
set_option maxRecDepth 100000 in
theorem f_L_law_299 : am_cd k_L_law 299 = some ((some .boolean), .iadd, (0, 0, 0, 0, 0, .null)) := rfl
theorem s_L_law_299 {ls : am_L} {st : List Value} {σ : am_H} {Q : Option Value → am_H → Prop} {x y : Int32} : ax k_L_law 299 ls (.int y :: .int x :: st) σ Q = ax k_L_law 300 ls (.int (x + y) :: st) σ Q := ru_pure f_L_law_299 rfl rfl
set_option maxRecDepth 100000 in
theorem f_L_law_300 : am_cd k_L_law 300 = some ((some .boolean), .iaload, (0, 0, 0, 0, 0, .null)) := rfl
theorem s_L_law_300 {ls : am_L} {st : List Value} {σ : am_H} {Q : Option Value → am_H → Prop} {a : Nat} {j : Int32} : ax k_L_law 300 ls (.int j :: .ref a :: st) σ Q = ax_f (am_j σ a) (fun q => q.1 = 0 ∧ am_ix j q.2.1 ∧ ax k_L_law 301 ls (.int (q.2.2 j.toNatClampNeg) :: st) σ Q) := rv_iald f_L_law_300 rfl
set_option maxRecDepth 100000 in
theorem f_L_law_301 : am_cd k_L_law 301 = some ((some .boolean), .i2l, (0, 0, 0, 0, 0, .null)) := rfl
theorem s_L_law_301 {ls : am_L} {st : List Value} {σ : am_H} {Q : Option Value → am_H → Prop} {x : Int32} : ax k_L_law 301 ls (.int x :: st) σ Q = ax k_L_law 302 ls (.long x.toInt64 :: st) σ Q := ru_pure f_L_law_301 rfl rfl
set_option maxRecDepth 100000 in
theorem f_L_law_302 : am_cd k_L_law 302 = some ((some .boolean), .ldc2_w 33, (0, 0, 1345, 0, 0, .long (4294967295))) := rfl
theorem s_L_law_302 {ls : am_L} {st : List Value} {σ : am_H} {Q : Option Value → am_H → Prop} : ax k_L_law 302 ls st σ Q = ax k_L_law 305 ls (.long (4294967295) :: st) σ Q := ru_rd f_L_law_302 rfl rfl rfl rfl rfl
set_option maxRecDepth 100000 in
theorem f_L_law_305 : am_cd k_L_law 305 = some ((some .boolean), .land, (0, 0, 0, 0, 0, .null)) := rfl
theorem s_L_law_305 {ls : am_L} {st : List Value} {σ : am_H} {Q : Option Value → am_H → Prop} {x y : Int64} : ax k_L_law 305 ls (.long y :: .long x :: st) σ Q = ax k_L_law 306 ls (.long (x &&& y) :: st) σ Q := ru_pure f_L_law_305 rfl rfl
set_option maxRecDepth 100000 in
theorem f_L_law_306 : am_cd k_L_law 306 = some ((some .boolean), .lor, (0, 0, 0, 0, 0, .null)) := rfl
theorem s_L_law_306 {ls : am_L} {st : List Value} {σ : am_H} {Q : Option Value → am_H → Prop} {x y : Int64} : ax k_L_law 306 ls (.long y :: .long x :: st) σ Q = ax k_L_law 307 ls (.long (x ||| y) :: st) σ Q := ru_pure f_L_law_306 rfl rfl
set_option maxRecDepth 100000 in
theorem f_L_law_307 : am_cd k_L_law 307 = some ((some .boolean), .aload_n 0, (0, 0, 0, 0, 0, .null)) := rfl
theorem s_L_law_307 {a1 a2 a3 : Option Value} {st : List Value} {σ : am_H} {Q : Option Value → am_H → Prop} {x : Nat} : ax k_L_law 307 [some (.ref x), a1, a2, a3] st σ Q = ax k_L_law 308 [some (.ref x), a1, a2, a3] (.ref x :: st) σ Q := ru_loc (q := (_, _)) f_L_law_307 rfl rfl rfl
set_option maxRecDepth 100000 in
theorem f_L_law_308 : am_cd k_L_law 308 = some ((some .boolean), .iload_n 3, (0, 0, 0, 0, 0, .null)) := rfl
theorem s_L_law_308 {a0 a1 a2 : Option Value} {st : List Value} {σ : am_H} {Q : Option Value → am_H → Prop} {x : Int32} : ax k_L_law 308 [a0, a1, a2, some (.int x)] st σ Q = ax k_L_law 309 [a0, a1, a2, some (.int x)] (.int x :: st) σ Q := ru_loc (q := (_, _)) f_L_law_308 rfl rfl rfl
set_option maxRecDepth 100000 in
theorem f_L_law_309 : am_cd k_L_law 309 = some ((some .boolean), .iconst 5, (0, 0, 0, 0, 0, .null)) := rfl
theorem s_L_law_309 {ls : am_L} {st : List Value} {σ : am_H} {Q : Option Value → am_H → Prop} : ax k_L_law 309 ls st σ Q = ax k_L_law 310 ls (.int 5 :: st) σ Q := ru_iconst f_L_law_309 (by decide +kernel) rfl
set_option maxRecDepth 100000 in
theorem f_L_law_310 : am_cd k_L_law 310 = some ((some .boolean), .iadd, (0, 0, 0, 0, 0, .null)) := rfl
theorem s_L_law_310 {ls : am_L} {st : List Value} {σ : am_H} {Q : Option Value → am_H → Prop} {x y : Int32} : ax k_L_law 310 ls (.int y :: .int x :: st) σ Q = ax k_L_law 311 ls (.int (x + y) :: st) σ Q := ru_pure f_L_law_310 rfl rfl
set_option maxRecDepth 100000 in
theorem f_L_law_311 : am_cd k_L_law 311 = some ((some .boolean), .iaload, (0, 0, 0, 0, 0, .null)) := rfl
theorem s_L_law_311 {ls : am_L} {st : List Value} {σ : am_H} {Q : Option Value → am_H → Prop} {a : Nat} {j : Int32} : ax k_L_law 311 ls (.int j :: .ref a :: st) σ Q = ax_f (am_j σ a) (fun q => q.1 = 0 ∧ am_ix j q.2.1 ∧ ax k_L_law 312 ls (.int (q.2.2 j.toNatClampNeg) :: st) σ Q) := rv_iald f_L_law_311 rfl
set_option maxRecDepth 100000 in
theorem f_L_law_312 : am_cd k_L_law 312 = some ((some .boolean), .invokevirtual 35, (74, 4, 396, 0, 10, .null)) := rfl
theorem s_L_law_312 {ls : am_L} {st : List Value} {σ : am_H} {Q : Option Value → am_H → Prop} {p0 : Int32} {p1 : Int32} {p2 : Int64} {p3 : Int32} {b : Nat} (hi : am_is σ b 10) (h8 : am_s8 st) : ax k_L_law 312 ls (.int p3 :: .long p2 :: .int p1 :: .int p0 :: .ref b :: st) σ Q = ax k_A_picture 0 [some (.ref b), some (.int p0), some (.int p1), some (.long p2), none, some (.int p3), none] [] σ (ax_k k_L_law 315 ls st Q) := ru_vir (M' := rk_A_picture) f_L_law_312 rfl rfl rfl rfl hi h8 rfl rfl rfl rfl rfl
set_option maxRecDepth 100000 in
theorem f_L_law_315 : am_cd k_L_law 315 = some ((some .boolean), .aload_n 2, (0, 0, 0, 0, 0, .null)) := rfl
theorem s_L_law_315 {a0 a1 a3 : Option Value} {st : List Value} {σ : am_H} {Q : Option Value → am_H → Prop} {x : Nat} : ax k_L_law 315 [a0, a1, some (.ref x), a3] st σ Q = ax k_L_law 316 [a0, a1, some (.ref x), a3] (.ref x :: st) σ Q := ru_loc (q := (_, _)) f_L_law_315 rfl rfl rfl
theorem s_L_law_315n {a0 a1 a3 : Option Value} {st : List Value} {σ : am_H} {Q : Option Value → am_H → Prop} : ax k_L_law 315 [a0, a1, some .null, a3] st σ Q = ax k_L_law 316 [a0, a1, some .null, a3] (.null :: st) σ Q := ru_loc (q := (_, _)) f_L_law_315 rfl rfl rfl
set_option maxRecDepth 100000 in
theorem f_L_law_316 : am_cd k_L_law 316 = some ((some .boolean), .aload_n 0, (0, 0, 0, 0, 0, .null)) := rfl
theorem s_L_law_316 {a1 a2 a3 : Option Value} {st : List Value} {σ : am_H} {Q : Option Value → am_H → Prop} {x : Nat} : ax k_L_law 316 [some (.ref x), a1, a2, a3] st σ Q = ax k_L_law 317 [some (.ref x), a1, a2, a3] (.ref x :: st) σ Q := ru_loc (q := (_, _)) f_L_law_316 rfl rfl rfl
set_option maxRecDepth 100000 in
theorem f_L_law_317 : am_cd k_L_law 317 = some ((some .boolean), .iload_n 3, (0, 0, 0, 0, 0, .null)) := rfl
theorem s_L_law_317 {a0 a1 a2 : Option Value} {st : List Value} {σ : am_H} {Q : Option Value → am_H → Prop} {x : Int32} : ax k_L_law 317 [a0, a1, a2, some (.int x)] st σ Q = ax k_L_law 318 [a0, a1, a2, some (.int x)] (.int x :: st) σ Q := ru_loc (q := (_, _)) f_L_law_317 rfl rfl rfl
set_option maxRecDepth 100000 in
theorem f_L_law_318 : am_cd k_L_law 318 = some ((some .boolean), .iconst 1, (0, 0, 0, 0, 0, .null)) := rfl
theorem s_L_law_318 {ls : am_L} {st : List Value} {σ : am_H} {Q : Option Value → am_H → Prop} : ax k_L_law 318 ls st σ Q = ax k_L_law 319 ls (.int 1 :: st) σ Q := ru_iconst f_L_law_318 (by decide +kernel) rfl
set_option maxRecDepth 100000 in
theorem f_L_law_319 : am_cd k_L_law 319 = some ((some .boolean), .iadd, (0, 0, 0, 0, 0, .null)) := rfl
theorem s_L_law_319 {ls : am_L} {st : List Value} {σ : am_H} {Q : Option Value → am_H → Prop} {x y : Int32} : ax k_L_law 319 ls (.int y :: .int x :: st) σ Q = ax k_L_law 320 ls (.int (x + y) :: st) σ Q := ru_pure f_L_law_319 rfl rfl
set_option maxRecDepth 100000 in
theorem f_L_law_320 : am_cd k_L_law 320 = some ((some .boolean), .iaload, (0, 0, 0, 0, 0, .null)) := rfl
theorem s_L_law_320 {ls : am_L} {st : List Value} {σ : am_H} {Q : Option Value → am_H → Prop} {a : Nat} {j : Int32} : ax k_L_law 320 ls (.int j :: .ref a :: st) σ Q = ax_f (am_j σ a) (fun q => q.1 = 0 ∧ am_ix j q.2.1 ∧ ax k_L_law 321 ls (.int (q.2.2 j.toNatClampNeg) :: st) σ Q) := rv_iald f_L_law_320 rfl
set_option maxRecDepth 100000 in
theorem f_L_law_321 : am_cd k_L_law 321 = some ((some .boolean), .aload_n 0, (0, 0, 0, 0, 0, .null)) := rfl
theorem s_L_law_321 {a1 a2 a3 : Option Value} {st : List Value} {σ : am_H} {Q : Option Value → am_H → Prop} {x : Nat} : ax k_L_law 321 [some (.ref x), a1, a2, a3] st σ Q = ax k_L_law 322 [some (.ref x), a1, a2, a3] (.ref x :: st) σ Q := ru_loc (q := (_, _)) f_L_law_321 rfl rfl rfl
set_option maxRecDepth 100000 in
theorem f_L_law_322 : am_cd k_L_law 322 = some ((some .boolean), .iload_n 3, (0, 0, 0, 0, 0, .null)) := rfl
theorem s_L_law_322 {a0 a1 a2 : Option Value} {st : List Value} {σ : am_H} {Q : Option Value → am_H → Prop} {x : Int32} : ax k_L_law 322 [a0, a1, a2, some (.int x)] st σ Q = ax k_L_law 323 [a0, a1, a2, some (.int x)] (.int x :: st) σ Q := ru_loc (q := (_, _)) f_L_law_322 rfl rfl rfl
set_option maxRecDepth 100000 in
theorem f_L_law_323 : am_cd k_L_law 323 = some ((some .boolean), .iconst 2, (0, 0, 0, 0, 0, .null)) := rfl
theorem s_L_law_323 {ls : am_L} {st : List Value} {σ : am_H} {Q : Option Value → am_H → Prop} : ax k_L_law 323 ls st σ Q = ax k_L_law 324 ls (.int 2 :: st) σ Q := ru_iconst f_L_law_323 (by decide +kernel) rfl
set_option maxRecDepth 100000 in
theorem f_L_law_324 : am_cd k_L_law 324 = some ((some .boolean), .iadd, (0, 0, 0, 0, 0, .null)) := rfl
theorem s_L_law_324 {ls : am_L} {st : List Value} {σ : am_H} {Q : Option Value → am_H → Prop} {x y : Int32} : ax k_L_law 324 ls (.int y :: .int x :: st) σ Q = ax k_L_law 325 ls (.int (x + y) :: st) σ Q := ru_pure f_L_law_324 rfl rfl
set_option maxRecDepth 100000 in
theorem f_L_law_325 : am_cd k_L_law 325 = some ((some .boolean), .iaload, (0, 0, 0, 0, 0, .null)) := rfl
theorem s_L_law_325 {ls : am_L} {st : List Value} {σ : am_H} {Q : Option Value → am_H → Prop} {a : Nat} {j : Int32} : ax k_L_law 325 ls (.int j :: .ref a :: st) σ Q = ax_f (am_j σ a) (fun q => q.1 = 0 ∧ am_ix j q.2.1 ∧ ax k_L_law 326 ls (.int (q.2.2 j.toNatClampNeg) :: st) σ Q) := rv_iald f_L_law_325 rfl
set_option maxRecDepth 100000 in
theorem f_L_law_326 : am_cd k_L_law 326 = some ((some .boolean), .aload_n 0, (0, 0, 0, 0, 0, .null)) := rfl
theorem s_L_law_326 {a1 a2 a3 : Option Value} {st : List Value} {σ : am_H} {Q : Option Value → am_H → Prop} {x : Nat} : ax k_L_law 326 [some (.ref x), a1, a2, a3] st σ Q = ax k_L_law 327 [some (.ref x), a1, a2, a3] (.ref x :: st) σ Q := ru_loc (q := (_, _)) f_L_law_326 rfl rfl rfl
set_option maxRecDepth 100000 in
theorem f_L_law_327 : am_cd k_L_law 327 = some ((some .boolean), .iload_n 3, (0, 0, 0, 0, 0, .null)) := rfl
theorem s_L_law_327 {a0 a1 a2 : Option Value} {st : List Value} {σ : am_H} {Q : Option Value → am_H → Prop} {x : Int32} : ax k_L_law 327 [a0, a1, a2, some (.int x)] st σ Q = ax k_L_law 328 [a0, a1, a2, some (.int x)] (.int x :: st) σ Q := ru_loc (q := (_, _)) f_L_law_327 rfl rfl rfl
set_option maxRecDepth 100000 in
theorem f_L_law_328 : am_cd k_L_law 328 = some ((some .boolean), .iconst 3, (0, 0, 0, 0, 0, .null)) := rfl
theorem s_L_law_328 {ls : am_L} {st : List Value} {σ : am_H} {Q : Option Value → am_H → Prop} : ax k_L_law 328 ls st σ Q = ax k_L_law 329 ls (.int 3 :: st) σ Q := ru_iconst f_L_law_328 (by decide +kernel) rfl
set_option maxRecDepth 100000 in
theorem f_L_law_329 : am_cd k_L_law 329 = some ((some .boolean), .iadd, (0, 0, 0, 0, 0, .null)) := rfl
theorem s_L_law_329 {ls : am_L} {st : List Value} {σ : am_H} {Q : Option Value → am_H → Prop} {x y : Int32} : ax k_L_law 329 ls (.int y :: .int x :: st) σ Q = ax k_L_law 330 ls (.int (x + y) :: st) σ Q := ru_pure f_L_law_329 rfl rfl
set_option maxRecDepth 100000 in
theorem f_L_law_330 : am_cd k_L_law 330 = some ((some .boolean), .iaload, (0, 0, 0, 0, 0, .null)) := rfl
theorem s_L_law_330 {ls : am_L} {st : List Value} {σ : am_H} {Q : Option Value → am_H → Prop} {a : Nat} {j : Int32} : ax k_L_law 330 ls (.int j :: .ref a :: st) σ Q = ax_f (am_j σ a) (fun q => q.1 = 0 ∧ am_ix j q.2.1 ∧ ax k_L_law 331 ls (.int (q.2.2 j.toNatClampNeg) :: st) σ Q) := rv_iald f_L_law_330 rfl
set_option maxRecDepth 100000 in
theorem f_L_law_331 : am_cd k_L_law 331 = some ((some .boolean), .i2l, (0, 0, 0, 0, 0, .null)) := rfl
theorem s_L_law_331 {ls : am_L} {st : List Value} {σ : am_H} {Q : Option Value → am_H → Prop} {x : Int32} : ax k_L_law 331 ls (.int x :: st) σ Q = ax k_L_law 332 ls (.long x.toInt64 :: st) σ Q := ru_pure f_L_law_331 rfl rfl
set_option maxRecDepth 100000 in
theorem f_L_law_332 : am_cd k_L_law 332 = some ((some .boolean), .bipush 32, (0, 0, 0, 0, 0, .null)) := rfl
theorem s_L_law_332 {ls : am_L} {st : List Value} {σ : am_H} {Q : Option Value → am_H → Prop} : ax k_L_law 332 ls st σ Q = ax k_L_law 334 ls (.int 32 :: st) σ Q := ru_bipush f_L_law_332 (by decide +kernel) rfl
set_option maxRecDepth 100000 in
theorem f_L_law_334 : am_cd k_L_law 334 = some ((some .boolean), .lshl, (0, 0, 0, 0, 0, .null)) := rfl
theorem s_L_law_334 {ls : am_L} {st : List Value} {σ : am_H} {Q : Option Value → am_H → Prop} {x : Int64} {y : Int32} : ax k_L_law 334 ls (.int y :: .long x :: st) σ Q = ax k_L_law 335 ls (.long (x <<< (y.toInt64 &&& 63)) :: st) σ Q := ru_pure f_L_law_334 rfl rfl
set_option maxRecDepth 100000 in
theorem f_L_law_335 : am_cd k_L_law 335 = some ((some .boolean), .aload_n 0, (0, 0, 0, 0, 0, .null)) := rfl
theorem s_L_law_335 {a1 a2 a3 : Option Value} {st : List Value} {σ : am_H} {Q : Option Value → am_H → Prop} {x : Nat} : ax k_L_law 335 [some (.ref x), a1, a2, a3] st σ Q = ax k_L_law 336 [some (.ref x), a1, a2, a3] (.ref x :: st) σ Q := ru_loc (q := (_, _)) f_L_law_335 rfl rfl rfl
set_option maxRecDepth 100000 in
theorem f_L_law_336 : am_cd k_L_law 336 = some ((some .boolean), .iload_n 3, (0, 0, 0, 0, 0, .null)) := rfl
theorem s_L_law_336 {a0 a1 a2 : Option Value} {st : List Value} {σ : am_H} {Q : Option Value → am_H → Prop} {x : Int32} : ax k_L_law 336 [a0, a1, a2, some (.int x)] st σ Q = ax k_L_law 337 [a0, a1, a2, some (.int x)] (.int x :: st) σ Q := ru_loc (q := (_, _)) f_L_law_336 rfl rfl rfl
set_option maxRecDepth 100000 in
theorem f_L_law_337 : am_cd k_L_law 337 = some ((some .boolean), .iconst 4, (0, 0, 0, 0, 0, .null)) := rfl
theorem s_L_law_337 {ls : am_L} {st : List Value} {σ : am_H} {Q : Option Value → am_H → Prop} : ax k_L_law 337 ls st σ Q = ax k_L_law 338 ls (.int 4 :: st) σ Q := ru_iconst f_L_law_337 (by decide +kernel) rfl
set_option maxRecDepth 100000 in
theorem f_L_law_338 : am_cd k_L_law 338 = some ((some .boolean), .iadd, (0, 0, 0, 0, 0, .null)) := rfl
theorem s_L_law_338 {ls : am_L} {st : List Value} {σ : am_H} {Q : Option Value → am_H → Prop} {x y : Int32} : ax k_L_law 338 ls (.int y :: .int x :: st) σ Q = ax k_L_law 339 ls (.int (x + y) :: st) σ Q := ru_pure f_L_law_338 rfl rfl
set_option maxRecDepth 100000 in
theorem f_L_law_339 : am_cd k_L_law 339 = some ((some .boolean), .iaload, (0, 0, 0, 0, 0, .null)) := rfl
theorem s_L_law_339 {ls : am_L} {st : List Value} {σ : am_H} {Q : Option Value → am_H → Prop} {a : Nat} {j : Int32} : ax k_L_law 339 ls (.int j :: .ref a :: st) σ Q = ax_f (am_j σ a) (fun q => q.1 = 0 ∧ am_ix j q.2.1 ∧ ax k_L_law 340 ls (.int (q.2.2 j.toNatClampNeg) :: st) σ Q) := rv_iald f_L_law_339 rfl
set_option maxRecDepth 100000 in
theorem f_L_law_340 : am_cd k_L_law 340 = some ((some .boolean), .i2l, (0, 0, 0, 0, 0, .null)) := rfl
theorem s_L_law_340 {ls : am_L} {st : List Value} {σ : am_H} {Q : Option Value → am_H → Prop} {x : Int32} : ax k_L_law 340 ls (.int x :: st) σ Q = ax k_L_law 341 ls (.long x.toInt64 :: st) σ Q := ru_pure f_L_law_340 rfl rfl
set_option maxRecDepth 100000 in
theorem f_L_law_341 : am_cd k_L_law 341 = some ((some .boolean), .ldc2_w 33, (0, 0, 1345, 0, 0, .long (4294967295))) := rfl
theorem s_L_law_341 {ls : am_L} {st : List Value} {σ : am_H} {Q : Option Value → am_H → Prop} : ax k_L_law 341 ls st σ Q = ax k_L_law 344 ls (.long (4294967295) :: st) σ Q := ru_rd f_L_law_341 rfl rfl rfl rfl rfl
set_option maxRecDepth 100000 in
theorem f_L_law_344 : am_cd k_L_law 344 = some ((some .boolean), .land, (0, 0, 0, 0, 0, .null)) := rfl
theorem s_L_law_344 {ls : am_L} {st : List Value} {σ : am_H} {Q : Option Value → am_H → Prop} {x y : Int64} : ax k_L_law 344 ls (.long y :: .long x :: st) σ Q = ax k_L_law 345 ls (.long (x &&& y) :: st) σ Q := ru_pure f_L_law_344 rfl rfl
set_option maxRecDepth 100000 in
theorem f_L_law_345 : am_cd k_L_law 345 = some ((some .boolean), .lor, (0, 0, 0, 0, 0, .null)) := rfl
theorem s_L_law_345 {ls : am_L} {st : List Value} {σ : am_H} {Q : Option Value → am_H → Prop} {x y : Int64} : ax k_L_law 345 ls (.long y :: .long x :: st) σ Q = ax k_L_law 346 ls (.long (x ||| y) :: st) σ Q := ru_pure f_L_law_345 rfl rfl
set_option maxRecDepth 100000 in
theorem f_L_law_346 : am_cd k_L_law 346 = some ((some .boolean), .aload_n 0, (0, 0, 0, 0, 0, .null)) := rfl
theorem s_L_law_346 {a1 a2 a3 : Option Value} {st : List Value} {σ : am_H} {Q : Option Value → am_H → Prop} {x : Nat} : ax k_L_law 346 [some (.ref x), a1, a2, a3] st σ Q = ax k_L_law 347 [some (.ref x), a1, a2, a3] (.ref x :: st) σ Q := ru_loc (q := (_, _)) f_L_law_346 rfl rfl rfl
set_option maxRecDepth 100000 in
theorem f_L_law_347 : am_cd k_L_law 347 = some ((some .boolean), .iload_n 3, (0, 0, 0, 0, 0, .null)) := rfl
theorem s_L_law_347 {a0 a1 a2 : Option Value} {st : List Value} {σ : am_H} {Q : Option Value → am_H → Prop} {x : Int32} : ax k_L_law 347 [a0, a1, a2, some (.int x)] st σ Q = ax k_L_law 348 [a0, a1, a2, some (.int x)] (.int x :: st) σ Q := ru_loc (q := (_, _)) f_L_law_347 rfl rfl rfl
set_option maxRecDepth 100000 in
theorem f_L_law_348 : am_cd k_L_law 348 = some ((some .boolean), .iconst 5, (0, 0, 0, 0, 0, .null)) := rfl
theorem s_L_law_348 {ls : am_L} {st : List Value} {σ : am_H} {Q : Option Value → am_H → Prop} : ax k_L_law 348 ls st σ Q = ax k_L_law 349 ls (.int 5 :: st) σ Q := ru_iconst f_L_law_348 (by decide +kernel) rfl
set_option maxRecDepth 100000 in
theorem f_L_law_349 : am_cd k_L_law 349 = some ((some .boolean), .iadd, (0, 0, 0, 0, 0, .null)) := rfl
theorem s_L_law_349 {ls : am_L} {st : List Value} {σ : am_H} {Q : Option Value → am_H → Prop} {x y : Int32} : ax k_L_law 349 ls (.int y :: .int x :: st) σ Q = ax k_L_law 350 ls (.int (x + y) :: st) σ Q := ru_pure f_L_law_349 rfl rfl
set_option maxRecDepth 100000 in
theorem f_L_law_350 : am_cd k_L_law 350 = some ((some .boolean), .iaload, (0, 0, 0, 0, 0, .null)) := rfl
theorem s_L_law_350 {ls : am_L} {st : List Value} {σ : am_H} {Q : Option Value → am_H → Prop} {a : Nat} {j : Int32} : ax k_L_law 350 ls (.int j :: .ref a :: st) σ Q = ax_f (am_j σ a) (fun q => q.1 = 0 ∧ am_ix j q.2.1 ∧ ax k_L_law 351 ls (.int (q.2.2 j.toNatClampNeg) :: st) σ Q) := rv_iald f_L_law_350 rfl
set_option maxRecDepth 100000 in
theorem f_L_law_351 : am_cd k_L_law 351 = some ((some .boolean), .invokevirtual 39, (124, 4, 1145, 0, 11, .null)) := rfl
theorem s_L_law_351 {ls : am_L} {st : List Value} {σ : am_H} {Q : Option Value → am_H → Prop} {p0 : Int32} {p1 : Int32} {p2 : Int64} {p3 : Int32} {b : Nat} (hi : am_is σ b 11) (h8 : am_s8 st) : ax k_L_law 351 ls (.int p3 :: .long p2 :: .int p1 :: .int p0 :: .ref b :: st) σ Q = ax k_M_picture 0 [some (.ref b), some (.int p0), some (.int p1), some (.long p2), none, some (.int p3), none] [] σ (ax_k k_L_law 354 ls st Q) := ru_vir (M' := rk_M_picture) f_L_law_351 rfl rfl rfl rfl hi h8 rfl rfl rfl rfl rfl
set_option maxRecDepth 100000 in
theorem f_L_law_354 : am_cd k_L_law 354 = some ((some .boolean), .if_icmp .eq 1036, (1390, 0, 0, 0, 0, .null)) := rfl
theorem s_L_law_354 {ls : am_L} {st : List Value} {σ : am_H} {Q : Option Value → am_H → Prop} {x y : Int32} : ax k_L_law 354 ls (.int y :: .int x :: st) σ Q = (if x = y then ax k_L_law 1390 ls st σ Q else ax k_L_law 357 ls st σ Q) := (ru_icmp f_L_law_354 rfl).trans (ru_i_eq _ _ _ _)
set_option maxRecDepth 100000 in
theorem f_L_law_357 : am_cd k_L_law 357 = some ((some .boolean), .iconst 0, (0, 0, 0, 0, 0, .null)) := rfl
theorem s_L_law_357 {ls : am_L} {st : List Value} {σ : am_H} {Q : Option Value → am_H → Prop} : ax k_L_law 357 ls st σ Q = ax k_L_law 358 ls (.int 0 :: st) σ Q := ru_iconst f_L_law_357 (by decide +kernel) rfl
set_option maxRecDepth 100000 in
theorem f_L_law_358 : am_cd k_L_law 358 = some ((some .boolean), .ireturn, (0, 0, 0, 0, 0, .null)) := rfl
theorem s_L_law_358 {ls : am_L} {σ : am_H} {Q : Option Value → am_H → Prop} {v : Int32} : ax k_L_law 358 ls ([.int v]) σ Q = (am_nar .boolean v = true ∧ Q (some (.int v)) σ) := ru_iret f_L_law_358
set_option maxRecDepth 100000 in
theorem f_L_law_359 : am_cd k_L_law 359 = some ((some .boolean), .aload_n 1, (0, 0, 0, 0, 0, .null)) := rfl
theorem s_L_law_359 {a0 a2 a3 : Option Value} {st : List Value} {σ : am_H} {Q : Option Value → am_H → Prop} {x : Nat} : ax k_L_law 359 [a0, some (.ref x), a2, a3] st σ Q = ax k_L_law 360 [a0, some (.ref x), a2, a3] (.ref x :: st) σ Q := ru_loc (q := (_, _)) f_L_law_359 rfl rfl rfl
theorem s_L_law_359n {a0 a2 a3 : Option Value} {st : List Value} {σ : am_H} {Q : Option Value → am_H → Prop} : ax k_L_law 359 [a0, some .null, a2, a3] st σ Q = ax k_L_law 360 [a0, some .null, a2, a3] (.null :: st) σ Q := ru_loc (q := (_, _)) f_L_law_359 rfl rfl rfl
set_option maxRecDepth 100000 in
theorem f_L_law_360 : am_cd k_L_law 360 = some ((some .boolean), .aload_n 0, (0, 0, 0, 0, 0, .null)) := rfl
theorem s_L_law_360 {a1 a2 a3 : Option Value} {st : List Value} {σ : am_H} {Q : Option Value → am_H → Prop} {x : Nat} : ax k_L_law 360 [some (.ref x), a1, a2, a3] st σ Q = ax k_L_law 361 [some (.ref x), a1, a2, a3] (.ref x :: st) σ Q := ru_loc (q := (_, _)) f_L_law_360 rfl rfl rfl
set_option maxRecDepth 100000 in
theorem f_L_law_361 : am_cd k_L_law 361 = some ((some .boolean), .iload_n 3, (0, 0, 0, 0, 0, .null)) := rfl
theorem s_L_law_361 {a0 a1 a2 : Option Value} {st : List Value} {σ : am_H} {Q : Option Value → am_H → Prop} {x : Int32} : ax k_L_law 361 [a0, a1, a2, some (.int x)] st σ Q = ax k_L_law 362 [a0, a1, a2, some (.int x)] (.int x :: st) σ Q := ru_loc (q := (_, _)) f_L_law_361 rfl rfl rfl
set_option maxRecDepth 100000 in
theorem f_L_law_362 : am_cd k_L_law 362 = some ((some .boolean), .iconst 1, (0, 0, 0, 0, 0, .null)) := rfl
theorem s_L_law_362 {ls : am_L} {st : List Value} {σ : am_H} {Q : Option Value → am_H → Prop} : ax k_L_law 362 ls st σ Q = ax k_L_law 363 ls (.int 1 :: st) σ Q := ru_iconst f_L_law_362 (by decide +kernel) rfl
set_option maxRecDepth 100000 in
theorem f_L_law_363 : am_cd k_L_law 363 = some ((some .boolean), .iadd, (0, 0, 0, 0, 0, .null)) := rfl
theorem s_L_law_363 {ls : am_L} {st : List Value} {σ : am_H} {Q : Option Value → am_H → Prop} {x y : Int32} : ax k_L_law 363 ls (.int y :: .int x :: st) σ Q = ax k_L_law 364 ls (.int (x + y) :: st) σ Q := ru_pure f_L_law_363 rfl rfl
set_option maxRecDepth 100000 in
theorem f_L_law_364 : am_cd k_L_law 364 = some ((some .boolean), .iaload, (0, 0, 0, 0, 0, .null)) := rfl
theorem s_L_law_364 {ls : am_L} {st : List Value} {σ : am_H} {Q : Option Value → am_H → Prop} {a : Nat} {j : Int32} : ax k_L_law 364 ls (.int j :: .ref a :: st) σ Q = ax_f (am_j σ a) (fun q => q.1 = 0 ∧ am_ix j q.2.1 ∧ ax k_L_law 365 ls (.int (q.2.2 j.toNatClampNeg) :: st) σ Q) := rv_iald f_L_law_364 rfl
set_option maxRecDepth 100000 in
theorem f_L_law_365 : am_cd k_L_law 365 = some ((some .boolean), .aload_n 0, (0, 0, 0, 0, 0, .null)) := rfl
theorem s_L_law_365 {a1 a2 a3 : Option Value} {st : List Value} {σ : am_H} {Q : Option Value → am_H → Prop} {x : Nat} : ax k_L_law 365 [some (.ref x), a1, a2, a3] st σ Q = ax k_L_law 366 [some (.ref x), a1, a2, a3] (.ref x :: st) σ Q := ru_loc (q := (_, _)) f_L_law_365 rfl rfl rfl
set_option maxRecDepth 100000 in
theorem f_L_law_366 : am_cd k_L_law 366 = some ((some .boolean), .iload_n 3, (0, 0, 0, 0, 0, .null)) := rfl
theorem s_L_law_366 {a0 a1 a2 : Option Value} {st : List Value} {σ : am_H} {Q : Option Value → am_H → Prop} {x : Int32} : ax k_L_law 366 [a0, a1, a2, some (.int x)] st σ Q = ax k_L_law 367 [a0, a1, a2, some (.int x)] (.int x :: st) σ Q := ru_loc (q := (_, _)) f_L_law_366 rfl rfl rfl
set_option maxRecDepth 100000 in
theorem f_L_law_367 : am_cd k_L_law 367 = some ((some .boolean), .iconst 2, (0, 0, 0, 0, 0, .null)) := rfl
theorem s_L_law_367 {ls : am_L} {st : List Value} {σ : am_H} {Q : Option Value → am_H → Prop} : ax k_L_law 367 ls st σ Q = ax k_L_law 368 ls (.int 2 :: st) σ Q := ru_iconst f_L_law_367 (by decide +kernel) rfl
set_option maxRecDepth 100000 in
theorem f_L_law_368 : am_cd k_L_law 368 = some ((some .boolean), .iadd, (0, 0, 0, 0, 0, .null)) := rfl
theorem s_L_law_368 {ls : am_L} {st : List Value} {σ : am_H} {Q : Option Value → am_H → Prop} {x y : Int32} : ax k_L_law 368 ls (.int y :: .int x :: st) σ Q = ax k_L_law 369 ls (.int (x + y) :: st) σ Q := ru_pure f_L_law_368 rfl rfl
set_option maxRecDepth 100000 in
theorem f_L_law_369 : am_cd k_L_law 369 = some ((some .boolean), .iaload, (0, 0, 0, 0, 0, .null)) := rfl
theorem s_L_law_369 {ls : am_L} {st : List Value} {σ : am_H} {Q : Option Value → am_H → Prop} {a : Nat} {j : Int32} : ax k_L_law 369 ls (.int j :: .ref a :: st) σ Q = ax_f (am_j σ a) (fun q => q.1 = 0 ∧ am_ix j q.2.1 ∧ ax k_L_law 370 ls (.int (q.2.2 j.toNatClampNeg) :: st) σ Q) := rv_iald f_L_law_369 rfl
set_option maxRecDepth 100000 in
theorem f_L_law_370 : am_cd k_L_law 370 = some ((some .boolean), .aload_n 0, (0, 0, 0, 0, 0, .null)) := rfl
theorem s_L_law_370 {a1 a2 a3 : Option Value} {st : List Value} {σ : am_H} {Q : Option Value → am_H → Prop} {x : Nat} : ax k_L_law 370 [some (.ref x), a1, a2, a3] st σ Q = ax k_L_law 371 [some (.ref x), a1, a2, a3] (.ref x :: st) σ Q := ru_loc (q := (_, _)) f_L_law_370 rfl rfl rfl
set_option maxRecDepth 100000 in
theorem f_L_law_371 : am_cd k_L_law 371 = some ((some .boolean), .iload_n 3, (0, 0, 0, 0, 0, .null)) := rfl
theorem s_L_law_371 {a0 a1 a2 : Option Value} {st : List Value} {σ : am_H} {Q : Option Value → am_H → Prop} {x : Int32} : ax k_L_law 371 [a0, a1, a2, some (.int x)] st σ Q = ax k_L_law 372 [a0, a1, a2, some (.int x)] (.int x :: st) σ Q := ru_loc (q := (_, _)) f_L_law_371 rfl rfl rfl
set_option maxRecDepth 100000 in
theorem f_L_law_372 : am_cd k_L_law 372 = some ((some .boolean), .iconst 3, (0, 0, 0, 0, 0, .null)) := rfl
theorem s_L_law_372 {ls : am_L} {st : List Value} {σ : am_H} {Q : Option Value → am_H → Prop} : ax k_L_law 372 ls st σ Q = ax k_L_law 373 ls (.int 3 :: st) σ Q := ru_iconst f_L_law_372 (by decide +kernel) rfl
set_option maxRecDepth 100000 in
theorem f_L_law_373 : am_cd k_L_law 373 = some ((some .boolean), .iadd, (0, 0, 0, 0, 0, .null)) := rfl
theorem s_L_law_373 {ls : am_L} {st : List Value} {σ : am_H} {Q : Option Value → am_H → Prop} {x y : Int32} : ax k_L_law 373 ls (.int y :: .int x :: st) σ Q = ax k_L_law 374 ls (.int (x + y) :: st) σ Q := ru_pure f_L_law_373 rfl rfl
set_option maxRecDepth 100000 in
theorem f_L_law_374 : am_cd k_L_law 374 = some ((some .boolean), .iaload, (0, 0, 0, 0, 0, .null)) := rfl
theorem s_L_law_374 {ls : am_L} {st : List Value} {σ : am_H} {Q : Option Value → am_H → Prop} {a : Nat} {j : Int32} : ax k_L_law 374 ls (.int j :: .ref a :: st) σ Q = ax_f (am_j σ a) (fun q => q.1 = 0 ∧ am_ix j q.2.1 ∧ ax k_L_law 375 ls (.int (q.2.2 j.toNatClampNeg) :: st) σ Q) := rv_iald f_L_law_374 rfl
set_option maxRecDepth 100000 in
theorem f_L_law_375 : am_cd k_L_law 375 = some ((some .boolean), .ifCond .eq 7, (382, 0, 0, 0, 0, .null)) := rfl
theorem s_L_law_375 {ls : am_L} {st : List Value} {σ : am_H} {Q : Option Value → am_H → Prop} {x : Int32} : ax k_L_law 375 ls (.int x :: st) σ Q = (if x = 0 then ax k_L_law 382 ls st σ Q else ax k_L_law 378 ls st σ Q) := (ru_if f_L_law_375 rfl).trans (ru_i_eq _ _ _ _)
set_option maxRecDepth 100000 in
theorem f_L_law_378 : am_cd k_L_law 378 = some ((some .boolean), .iconst 1, (0, 0, 0, 0, 0, .null)) := rfl
theorem s_L_law_378 {ls : am_L} {st : List Value} {σ : am_H} {Q : Option Value → am_H → Prop} : ax k_L_law 378 ls st σ Q = ax k_L_law 379 ls (.int 1 :: st) σ Q := ru_iconst f_L_law_378 (by decide +kernel) rfl
set_option maxRecDepth 100000 in
theorem f_L_law_379 : am_cd k_L_law 379 = some ((some .boolean), .goto 4, (383, 0, 0, 0, 0, .null)) := rfl
theorem s_L_law_379 {ls : am_L} {st : List Value} {σ : am_H} {Q : Option Value → am_H → Prop} : ax k_L_law 379 ls st σ Q = ax k_L_law 383 ls st σ Q := ru_goto f_L_law_379
set_option maxRecDepth 100000 in
theorem f_L_law_382 : am_cd k_L_law 382 = some ((some .boolean), .iconst 0, (0, 0, 0, 0, 0, .null)) := rfl
theorem s_L_law_382 {ls : am_L} {st : List Value} {σ : am_H} {Q : Option Value → am_H → Prop} : ax k_L_law 382 ls st σ Q = ax k_L_law 383 ls (.int 0 :: st) σ Q := ru_iconst f_L_law_382 (by decide +kernel) rfl
set_option maxRecDepth 100000 in
theorem f_L_law_383 : am_cd k_L_law 383 = some ((some .boolean), .invokevirtual 40, (75, 3, 415, 0, 10, .null)) := rfl
theorem s_L_law_383 {ls : am_L} {st : List Value} {σ : am_H} {Q : Option Value → am_H → Prop} {p0 : Int32} {p1 : Int32} {p2 : Int32} {b : Nat} (hi : am_is σ b 10) (h8 : am_s8 st) : ax k_L_law 383 ls (.int p2 :: .int p1 :: .int p0 :: .ref b :: st) σ Q = ax k_A_caption 0 [some (.ref b), some (.int p0), some (.int p1), some (.int p2)] [] σ (ax_k k_L_law 386 ls st Q) := ru_vir (M' := rk_A_caption) f_L_law_383 rfl rfl rfl rfl hi h8 rfl rfl rfl rfl rfl
set_option maxRecDepth 100000 in
theorem f_L_law_386 : am_cd k_L_law 386 = some ((some .boolean), .aload_n 2, (0, 0, 0, 0, 0, .null)) := rfl
theorem s_L_law_386 {a0 a1 a3 : Option Value} {st : List Value} {σ : am_H} {Q : Option Value → am_H → Prop} {x : Nat} : ax k_L_law 386 [a0, a1, some (.ref x), a3] st σ Q = ax k_L_law 387 [a0, a1, some (.ref x), a3] (.ref x :: st) σ Q := ru_loc (q := (_, _)) f_L_law_386 rfl rfl rfl
theorem s_L_law_386n {a0 a1 a3 : Option Value} {st : List Value} {σ : am_H} {Q : Option Value → am_H → Prop} : ax k_L_law 386 [a0, a1, some .null, a3] st σ Q = ax k_L_law 387 [a0, a1, some .null, a3] (.null :: st) σ Q := ru_loc (q := (_, _)) f_L_law_386 rfl rfl rfl
set_option maxRecDepth 100000 in
theorem f_L_law_387 : am_cd k_L_law 387 = some ((some .boolean), .aload_n 0, (0, 0, 0, 0, 0, .null)) := rfl
theorem s_L_law_387 {a1 a2 a3 : Option Value} {st : List Value} {σ : am_H} {Q : Option Value → am_H → Prop} {x : Nat} : ax k_L_law 387 [some (.ref x), a1, a2, a3] st σ Q = ax k_L_law 388 [some (.ref x), a1, a2, a3] (.ref x :: st) σ Q := ru_loc (q := (_, _)) f_L_law_387 rfl rfl rfl
set_option maxRecDepth 100000 in
theorem f_L_law_388 : am_cd k_L_law 388 = some ((some .boolean), .iload_n 3, (0, 0, 0, 0, 0, .null)) := rfl
theorem s_L_law_388 {a0 a1 a2 : Option Value} {st : List Value} {σ : am_H} {Q : Option Value → am_H → Prop} {x : Int32} : ax k_L_law 388 [a0, a1, a2, some (.int x)] st σ Q = ax k_L_law 389 [a0, a1, a2, some (.int x)] (.int x :: st) σ Q := ru_loc (q := (_, _)) f_L_law_388 rfl rfl rfl
set_option maxRecDepth 100000 in
theorem f_L_law_389 : am_cd k_L_law 389 = some ((some .boolean), .iconst 1, (0, 0, 0, 0, 0, .null)) := rfl
theorem s_L_law_389 {ls : am_L} {st : List Value} {σ : am_H} {Q : Option Value → am_H → Prop} : ax k_L_law 389 ls st σ Q = ax k_L_law 390 ls (.int 1 :: st) σ Q := ru_iconst f_L_law_389 (by decide +kernel) rfl
set_option maxRecDepth 100000 in
theorem f_L_law_390 : am_cd k_L_law 390 = some ((some .boolean), .iadd, (0, 0, 0, 0, 0, .null)) := rfl
theorem s_L_law_390 {ls : am_L} {st : List Value} {σ : am_H} {Q : Option Value → am_H → Prop} {x y : Int32} : ax k_L_law 390 ls (.int y :: .int x :: st) σ Q = ax k_L_law 391 ls (.int (x + y) :: st) σ Q := ru_pure f_L_law_390 rfl rfl
set_option maxRecDepth 100000 in
theorem f_L_law_391 : am_cd k_L_law 391 = some ((some .boolean), .iaload, (0, 0, 0, 0, 0, .null)) := rfl
theorem s_L_law_391 {ls : am_L} {st : List Value} {σ : am_H} {Q : Option Value → am_H → Prop} {a : Nat} {j : Int32} : ax k_L_law 391 ls (.int j :: .ref a :: st) σ Q = ax_f (am_j σ a) (fun q => q.1 = 0 ∧ am_ix j q.2.1 ∧ ax k_L_law 392 ls (.int (q.2.2 j.toNatClampNeg) :: st) σ Q) := rv_iald f_L_law_391 rfl
set_option maxRecDepth 100000 in
theorem f_L_law_392 : am_cd k_L_law 392 = some ((some .boolean), .aload_n 0, (0, 0, 0, 0, 0, .null)) := rfl
theorem s_L_law_392 {a1 a2 a3 : Option Value} {st : List Value} {σ : am_H} {Q : Option Value → am_H → Prop} {x : Nat} : ax k_L_law 392 [some (.ref x), a1, a2, a3] st σ Q = ax k_L_law 393 [some (.ref x), a1, a2, a3] (.ref x :: st) σ Q := ru_loc (q := (_, _)) f_L_law_392 rfl rfl rfl
set_option maxRecDepth 100000 in
theorem f_L_law_393 : am_cd k_L_law 393 = some ((some .boolean), .iload_n 3, (0, 0, 0, 0, 0, .null)) := rfl
theorem s_L_law_393 {a0 a1 a2 : Option Value} {st : List Value} {σ : am_H} {Q : Option Value → am_H → Prop} {x : Int32} : ax k_L_law 393 [a0, a1, a2, some (.int x)] st σ Q = ax k_L_law 394 [a0, a1, a2, some (.int x)] (.int x :: st) σ Q := ru_loc (q := (_, _)) f_L_law_393 rfl rfl rfl
set_option maxRecDepth 100000 in
theorem f_L_law_394 : am_cd k_L_law 394 = some ((some .boolean), .iconst 2, (0, 0, 0, 0, 0, .null)) := rfl
theorem s_L_law_394 {ls : am_L} {st : List Value} {σ : am_H} {Q : Option Value → am_H → Prop} : ax k_L_law 394 ls st σ Q = ax k_L_law 395 ls (.int 2 :: st) σ Q := ru_iconst f_L_law_394 (by decide +kernel) rfl
set_option maxRecDepth 100000 in
theorem f_L_law_395 : am_cd k_L_law 395 = some ((some .boolean), .iadd, (0, 0, 0, 0, 0, .null)) := rfl
theorem s_L_law_395 {ls : am_L} {st : List Value} {σ : am_H} {Q : Option Value → am_H → Prop} {x y : Int32} : ax k_L_law 395 ls (.int y :: .int x :: st) σ Q = ax k_L_law 396 ls (.int (x + y) :: st) σ Q := ru_pure f_L_law_395 rfl rfl
set_option maxRecDepth 100000 in
theorem f_L_law_396 : am_cd k_L_law 396 = some ((some .boolean), .iaload, (0, 0, 0, 0, 0, .null)) := rfl
theorem s_L_law_396 {ls : am_L} {st : List Value} {σ : am_H} {Q : Option Value → am_H → Prop} {a : Nat} {j : Int32} : ax k_L_law 396 ls (.int j :: .ref a :: st) σ Q = ax_f (am_j σ a) (fun q => q.1 = 0 ∧ am_ix j q.2.1 ∧ ax k_L_law 397 ls (.int (q.2.2 j.toNatClampNeg) :: st) σ Q) := rv_iald f_L_law_396 rfl
set_option maxRecDepth 100000 in
theorem f_L_law_397 : am_cd k_L_law 397 = some ((some .boolean), .aload_n 0, (0, 0, 0, 0, 0, .null)) := rfl
theorem s_L_law_397 {a1 a2 a3 : Option Value} {st : List Value} {σ : am_H} {Q : Option Value → am_H → Prop} {x : Nat} : ax k_L_law 397 [some (.ref x), a1, a2, a3] st σ Q = ax k_L_law 398 [some (.ref x), a1, a2, a3] (.ref x :: st) σ Q := ru_loc (q := (_, _)) f_L_law_397 rfl rfl rfl
set_option maxRecDepth 100000 in
theorem f_L_law_398 : am_cd k_L_law 398 = some ((some .boolean), .iload_n 3, (0, 0, 0, 0, 0, .null)) := rfl
theorem s_L_law_398 {a0 a1 a2 : Option Value} {st : List Value} {σ : am_H} {Q : Option Value → am_H → Prop} {x : Int32} : ax k_L_law 398 [a0, a1, a2, some (.int x)] st σ Q = ax k_L_law 399 [a0, a1, a2, some (.int x)] (.int x :: st) σ Q := ru_loc (q := (_, _)) f_L_law_398 rfl rfl rfl
set_option maxRecDepth 100000 in
theorem f_L_law_399 : am_cd k_L_law 399 = some ((some .boolean), .iconst 3, (0, 0, 0, 0, 0, .null)) := rfl
theorem s_L_law_399 {ls : am_L} {st : List Value} {σ : am_H} {Q : Option Value → am_H → Prop} : ax k_L_law 399 ls st σ Q = ax k_L_law 400 ls (.int 3 :: st) σ Q := ru_iconst f_L_law_399 (by decide +kernel) rfl
set_option maxRecDepth 100000 in
theorem f_L_law_400 : am_cd k_L_law 400 = some ((some .boolean), .iadd, (0, 0, 0, 0, 0, .null)) := rfl
theorem s_L_law_400 {ls : am_L} {st : List Value} {σ : am_H} {Q : Option Value → am_H → Prop} {x y : Int32} : ax k_L_law 400 ls (.int y :: .int x :: st) σ Q = ax k_L_law 401 ls (.int (x + y) :: st) σ Q := ru_pure f_L_law_400 rfl rfl
set_option maxRecDepth 100000 in
theorem f_L_law_401 : am_cd k_L_law 401 = some ((some .boolean), .iaload, (0, 0, 0, 0, 0, .null)) := rfl
theorem s_L_law_401 {ls : am_L} {st : List Value} {σ : am_H} {Q : Option Value → am_H → Prop} {a : Nat} {j : Int32} : ax k_L_law 401 ls (.int j :: .ref a :: st) σ Q = ax_f (am_j σ a) (fun q => q.1 = 0 ∧ am_ix j q.2.1 ∧ ax k_L_law 402 ls (.int (q.2.2 j.toNatClampNeg) :: st) σ Q) := rv_iald f_L_law_401 rfl
set_option maxRecDepth 100000 in
theorem f_L_law_402 : am_cd k_L_law 402 = some ((some .boolean), .ifCond .eq 7, (409, 0, 0, 0, 0, .null)) := rfl
theorem s_L_law_402 {ls : am_L} {st : List Value} {σ : am_H} {Q : Option Value → am_H → Prop} {x : Int32} : ax k_L_law 402 ls (.int x :: st) σ Q = (if x = 0 then ax k_L_law 409 ls st σ Q else ax k_L_law 405 ls st σ Q) := (ru_if f_L_law_402 rfl).trans (ru_i_eq _ _ _ _)
set_option maxRecDepth 100000 in
theorem f_L_law_405 : am_cd k_L_law 405 = some ((some .boolean), .iconst 1, (0, 0, 0, 0, 0, .null)) := rfl
theorem s_L_law_405 {ls : am_L} {st : List Value} {σ : am_H} {Q : Option Value → am_H → Prop} : ax k_L_law 405 ls st σ Q = ax k_L_law 406 ls (.int 1 :: st) σ Q := ru_iconst f_L_law_405 (by decide +kernel) rfl
set_option maxRecDepth 100000 in
theorem f_L_law_406 : am_cd k_L_law 406 = some ((some .boolean), .goto 4, (410, 0, 0, 0, 0, .null)) := rfl
theorem s_L_law_406 {ls : am_L} {st : List Value} {σ : am_H} {Q : Option Value → am_H → Prop} : ax k_L_law 406 ls st σ Q = ax k_L_law 410 ls st σ Q := ru_goto f_L_law_406
set_option maxRecDepth 100000 in
theorem f_L_law_409 : am_cd k_L_law 409 = some ((some .boolean), .iconst 0, (0, 0, 0, 0, 0, .null)) := rfl
theorem s_L_law_409 {ls : am_L} {st : List Value} {σ : am_H} {Q : Option Value → am_H → Prop} : ax k_L_law 409 ls st σ Q = ax k_L_law 410 ls (.int 0 :: st) σ Q := ru_iconst f_L_law_409 (by decide +kernel) rfl
set_option maxRecDepth 100000 in
theorem f_L_law_410 : am_cd k_L_law 410 = some ((some .boolean), .invokevirtual 44, (126, 3, 1151, 0, 11, .null)) := rfl
theorem s_L_law_410 {ls : am_L} {st : List Value} {σ : am_H} {Q : Option Value → am_H → Prop} {p0 : Int32} {p1 : Int32} {p2 : Int32} {b : Nat} (hi : am_is σ b 11) (h8 : am_s8 st) : ax k_L_law 410 ls (.int p2 :: .int p1 :: .int p0 :: .ref b :: st) σ Q = ax k_M_caption 0 [some (.ref b), some (.int p0), some (.int p1), some (.int p2)] [] σ (ax_k k_L_law 413 ls st Q) := ru_vir (M' := rk_M_caption) f_L_law_410 rfl rfl rfl rfl hi h8 rfl rfl rfl rfl rfl
set_option maxRecDepth 100000 in
theorem f_L_law_413 : am_cd k_L_law 413 = some ((some .boolean), .if_icmp .eq 977, (1390, 0, 0, 0, 0, .null)) := rfl
theorem s_L_law_413 {ls : am_L} {st : List Value} {σ : am_H} {Q : Option Value → am_H → Prop} {x y : Int32} : ax k_L_law 413 ls (.int y :: .int x :: st) σ Q = (if x = y then ax k_L_law 1390 ls st σ Q else ax k_L_law 416 ls st σ Q) := (ru_icmp f_L_law_413 rfl).trans (ru_i_eq _ _ _ _)
set_option maxRecDepth 100000 in
theorem f_L_law_416 : am_cd k_L_law 416 = some ((some .boolean), .iconst 0, (0, 0, 0, 0, 0, .null)) := rfl
theorem s_L_law_416 {ls : am_L} {st : List Value} {σ : am_H} {Q : Option Value → am_H → Prop} : ax k_L_law 416 ls st σ Q = ax k_L_law 417 ls (.int 0 :: st) σ Q := ru_iconst f_L_law_416 (by decide +kernel) rfl
set_option maxRecDepth 100000 in
theorem f_L_law_417 : am_cd k_L_law 417 = some ((some .boolean), .ireturn, (0, 0, 0, 0, 0, .null)) := rfl
theorem s_L_law_417 {ls : am_L} {σ : am_H} {Q : Option Value → am_H → Prop} {v : Int32} : ax k_L_law 417 ls ([.int v]) σ Q = (am_nar .boolean v = true ∧ Q (some (.int v)) σ) := ru_iret f_L_law_417
set_option maxRecDepth 100000 in
theorem f_L_law_418 : am_cd k_L_law 418 = some ((some .boolean), .aload_n 1, (0, 0, 0, 0, 0, .null)) := rfl
theorem s_L_law_418 {a0 a2 a3 : Option Value} {st : List Value} {σ : am_H} {Q : Option Value → am_H → Prop} {x : Nat} : ax k_L_law 418 [a0, some (.ref x), a2, a3] st σ Q = ax k_L_law 419 [a0, some (.ref x), a2, a3] (.ref x :: st) σ Q := ru_loc (q := (_, _)) f_L_law_418 rfl rfl rfl
theorem s_L_law_418n {a0 a2 a3 : Option Value} {st : List Value} {σ : am_H} {Q : Option Value → am_H → Prop} : ax k_L_law 418 [a0, some .null, a2, a3] st σ Q = ax k_L_law 419 [a0, some .null, a2, a3] (.null :: st) σ Q := ru_loc (q := (_, _)) f_L_law_418 rfl rfl rfl
set_option maxRecDepth 100000 in
theorem f_L_law_419 : am_cd k_L_law 419 = some ((some .boolean), .aload_n 0, (0, 0, 0, 0, 0, .null)) := rfl
theorem s_L_law_419 {a1 a2 a3 : Option Value} {st : List Value} {σ : am_H} {Q : Option Value → am_H → Prop} {x : Nat} : ax k_L_law 419 [some (.ref x), a1, a2, a3] st σ Q = ax k_L_law 420 [some (.ref x), a1, a2, a3] (.ref x :: st) σ Q := ru_loc (q := (_, _)) f_L_law_419 rfl rfl rfl
set_option maxRecDepth 100000 in
theorem f_L_law_420 : am_cd k_L_law 420 = some ((some .boolean), .iload_n 3, (0, 0, 0, 0, 0, .null)) := rfl
theorem s_L_law_420 {a0 a1 a2 : Option Value} {st : List Value} {σ : am_H} {Q : Option Value → am_H → Prop} {x : Int32} : ax k_L_law 420 [a0, a1, a2, some (.int x)] st σ Q = ax k_L_law 421 [a0, a1, a2, some (.int x)] (.int x :: st) σ Q := ru_loc (q := (_, _)) f_L_law_420 rfl rfl rfl
set_option maxRecDepth 100000 in
theorem f_L_law_421 : am_cd k_L_law 421 = some ((some .boolean), .iconst 1, (0, 0, 0, 0, 0, .null)) := rfl
theorem s_L_law_421 {ls : am_L} {st : List Value} {σ : am_H} {Q : Option Value → am_H → Prop} : ax k_L_law 421 ls st σ Q = ax k_L_law 422 ls (.int 1 :: st) σ Q := ru_iconst f_L_law_421 (by decide +kernel) rfl
set_option maxRecDepth 100000 in
theorem f_L_law_422 : am_cd k_L_law 422 = some ((some .boolean), .iadd, (0, 0, 0, 0, 0, .null)) := rfl
theorem s_L_law_422 {ls : am_L} {st : List Value} {σ : am_H} {Q : Option Value → am_H → Prop} {x y : Int32} : ax k_L_law 422 ls (.int y :: .int x :: st) σ Q = ax k_L_law 423 ls (.int (x + y) :: st) σ Q := ru_pure f_L_law_422 rfl rfl
set_option maxRecDepth 100000 in
theorem f_L_law_423 : am_cd k_L_law 423 = some ((some .boolean), .iaload, (0, 0, 0, 0, 0, .null)) := rfl
theorem s_L_law_423 {ls : am_L} {st : List Value} {σ : am_H} {Q : Option Value → am_H → Prop} {a : Nat} {j : Int32} : ax k_L_law 423 ls (.int j :: .ref a :: st) σ Q = ax_f (am_j σ a) (fun q => q.1 = 0 ∧ am_ix j q.2.1 ∧ ax k_L_law 424 ls (.int (q.2.2 j.toNatClampNeg) :: st) σ Q) := rv_iald f_L_law_423 rfl
set_option maxRecDepth 100000 in
theorem f_L_law_424 : am_cd k_L_law 424 = some ((some .boolean), .aload_n 0, (0, 0, 0, 0, 0, .null)) := rfl
theorem s_L_law_424 {a1 a2 a3 : Option Value} {st : List Value} {σ : am_H} {Q : Option Value → am_H → Prop} {x : Nat} : ax k_L_law 424 [some (.ref x), a1, a2, a3] st σ Q = ax k_L_law 425 [some (.ref x), a1, a2, a3] (.ref x :: st) σ Q := ru_loc (q := (_, _)) f_L_law_424 rfl rfl rfl
set_option maxRecDepth 100000 in
theorem f_L_law_425 : am_cd k_L_law 425 = some ((some .boolean), .iload_n 3, (0, 0, 0, 0, 0, .null)) := rfl
theorem s_L_law_425 {a0 a1 a2 : Option Value} {st : List Value} {σ : am_H} {Q : Option Value → am_H → Prop} {x : Int32} : ax k_L_law 425 [a0, a1, a2, some (.int x)] st σ Q = ax k_L_law 426 [a0, a1, a2, some (.int x)] (.int x :: st) σ Q := ru_loc (q := (_, _)) f_L_law_425 rfl rfl rfl
set_option maxRecDepth 100000 in
theorem f_L_law_426 : am_cd k_L_law 426 = some ((some .boolean), .iconst 2, (0, 0, 0, 0, 0, .null)) := rfl
theorem s_L_law_426 {ls : am_L} {st : List Value} {σ : am_H} {Q : Option Value → am_H → Prop} : ax k_L_law 426 ls st σ Q = ax k_L_law 427 ls (.int 2 :: st) σ Q := ru_iconst f_L_law_426 (by decide +kernel) rfl
set_option maxRecDepth 100000 in
theorem f_L_law_427 : am_cd k_L_law 427 = some ((some .boolean), .iadd, (0, 0, 0, 0, 0, .null)) := rfl
theorem s_L_law_427 {ls : am_L} {st : List Value} {σ : am_H} {Q : Option Value → am_H → Prop} {x y : Int32} : ax k_L_law 427 ls (.int y :: .int x :: st) σ Q = ax k_L_law 428 ls (.int (x + y) :: st) σ Q := ru_pure f_L_law_427 rfl rfl
set_option maxRecDepth 100000 in
theorem f_L_law_428 : am_cd k_L_law 428 = some ((some .boolean), .iaload, (0, 0, 0, 0, 0, .null)) := rfl
theorem s_L_law_428 {ls : am_L} {st : List Value} {σ : am_H} {Q : Option Value → am_H → Prop} {a : Nat} {j : Int32} : ax k_L_law 428 ls (.int j :: .ref a :: st) σ Q = ax_f (am_j σ a) (fun q => q.1 = 0 ∧ am_ix j q.2.1 ∧ ax k_L_law 429 ls (.int (q.2.2 j.toNatClampNeg) :: st) σ Q) := rv_iald f_L_law_428 rfl
set_option maxRecDepth 100000 in
theorem f_L_law_429 : am_cd k_L_law 429 = some ((some .boolean), .aload_n 0, (0, 0, 0, 0, 0, .null)) := rfl
theorem s_L_law_429 {a1 a2 a3 : Option Value} {st : List Value} {σ : am_H} {Q : Option Value → am_H → Prop} {x : Nat} : ax k_L_law 429 [some (.ref x), a1, a2, a3] st σ Q = ax k_L_law 430 [some (.ref x), a1, a2, a3] (.ref x :: st) σ Q := ru_loc (q := (_, _)) f_L_law_429 rfl rfl rfl
set_option maxRecDepth 100000 in
theorem f_L_law_430 : am_cd k_L_law 430 = some ((some .boolean), .iload_n 3, (0, 0, 0, 0, 0, .null)) := rfl
theorem s_L_law_430 {a0 a1 a2 : Option Value} {st : List Value} {σ : am_H} {Q : Option Value → am_H → Prop} {x : Int32} : ax k_L_law 430 [a0, a1, a2, some (.int x)] st σ Q = ax k_L_law 431 [a0, a1, a2, some (.int x)] (.int x :: st) σ Q := ru_loc (q := (_, _)) f_L_law_430 rfl rfl rfl
set_option maxRecDepth 100000 in
theorem f_L_law_431 : am_cd k_L_law 431 = some ((some .boolean), .iconst 3, (0, 0, 0, 0, 0, .null)) := rfl
theorem s_L_law_431 {ls : am_L} {st : List Value} {σ : am_H} {Q : Option Value → am_H → Prop} : ax k_L_law 431 ls st σ Q = ax k_L_law 432 ls (.int 3 :: st) σ Q := ru_iconst f_L_law_431 (by decide +kernel) rfl
set_option maxRecDepth 100000 in
theorem f_L_law_432 : am_cd k_L_law 432 = some ((some .boolean), .iadd, (0, 0, 0, 0, 0, .null)) := rfl
theorem s_L_law_432 {ls : am_L} {st : List Value} {σ : am_H} {Q : Option Value → am_H → Prop} {x y : Int32} : ax k_L_law 432 ls (.int y :: .int x :: st) σ Q = ax k_L_law 433 ls (.int (x + y) :: st) σ Q := ru_pure f_L_law_432 rfl rfl
set_option maxRecDepth 100000 in
theorem f_L_law_433 : am_cd k_L_law 433 = some ((some .boolean), .iaload, (0, 0, 0, 0, 0, .null)) := rfl
theorem s_L_law_433 {ls : am_L} {st : List Value} {σ : am_H} {Q : Option Value → am_H → Prop} {a : Nat} {j : Int32} : ax k_L_law 433 ls (.int j :: .ref a :: st) σ Q = ax_f (am_j σ a) (fun q => q.1 = 0 ∧ am_ix j q.2.1 ∧ ax k_L_law 434 ls (.int (q.2.2 j.toNatClampNeg) :: st) σ Q) := rv_iald f_L_law_433 rfl
set_option maxRecDepth 100000 in
theorem f_L_law_434 : am_cd k_L_law 434 = some ((some .boolean), .aload_n 0, (0, 0, 0, 0, 0, .null)) := rfl
theorem s_L_law_434 {a1 a2 a3 : Option Value} {st : List Value} {σ : am_H} {Q : Option Value → am_H → Prop} {x : Nat} : ax k_L_law 434 [some (.ref x), a1, a2, a3] st σ Q = ax k_L_law 435 [some (.ref x), a1, a2, a3] (.ref x :: st) σ Q := ru_loc (q := (_, _)) f_L_law_434 rfl rfl rfl
set_option maxRecDepth 100000 in
theorem f_L_law_435 : am_cd k_L_law 435 = some ((some .boolean), .iload_n 3, (0, 0, 0, 0, 0, .null)) := rfl
theorem s_L_law_435 {a0 a1 a2 : Option Value} {st : List Value} {σ : am_H} {Q : Option Value → am_H → Prop} {x : Int32} : ax k_L_law 435 [a0, a1, a2, some (.int x)] st σ Q = ax k_L_law 436 [a0, a1, a2, some (.int x)] (.int x :: st) σ Q := ru_loc (q := (_, _)) f_L_law_435 rfl rfl rfl
set_option maxRecDepth 100000 in
theorem f_L_law_436 : am_cd k_L_law 436 = some ((some .boolean), .iconst 4, (0, 0, 0, 0, 0, .null)) := rfl
theorem s_L_law_436 {ls : am_L} {st : List Value} {σ : am_H} {Q : Option Value → am_H → Prop} : ax k_L_law 436 ls st σ Q = ax k_L_law 437 ls (.int 4 :: st) σ Q := ru_iconst f_L_law_436 (by decide +kernel) rfl
set_option maxRecDepth 100000 in
theorem f_L_law_437 : am_cd k_L_law 437 = some ((some .boolean), .iadd, (0, 0, 0, 0, 0, .null)) := rfl
theorem s_L_law_437 {ls : am_L} {st : List Value} {σ : am_H} {Q : Option Value → am_H → Prop} {x y : Int32} : ax k_L_law 437 ls (.int y :: .int x :: st) σ Q = ax k_L_law 438 ls (.int (x + y) :: st) σ Q := ru_pure f_L_law_437 rfl rfl
set_option maxRecDepth 100000 in
theorem f_L_law_438 : am_cd k_L_law 438 = some ((some .boolean), .iaload, (0, 0, 0, 0, 0, .null)) := rfl
theorem s_L_law_438 {ls : am_L} {st : List Value} {σ : am_H} {Q : Option Value → am_H → Prop} {a : Nat} {j : Int32} : ax k_L_law 438 ls (.int j :: .ref a :: st) σ Q = ax_f (am_j σ a) (fun q => q.1 = 0 ∧ am_ix j q.2.1 ∧ ax k_L_law 439 ls (.int (q.2.2 j.toNatClampNeg) :: st) σ Q) := rv_iald f_L_law_438 rfl
set_option maxRecDepth 100000 in
theorem f_L_law_439 : am_cd k_L_law 439 = some ((some .boolean), .ifCond .eq 7, (446, 0, 0, 0, 0, .null)) := rfl
theorem s_L_law_439 {ls : am_L} {st : List Value} {σ : am_H} {Q : Option Value → am_H → Prop} {x : Int32} : ax k_L_law 439 ls (.int x :: st) σ Q = (if x = 0 then ax k_L_law 446 ls st σ Q else ax k_L_law 442 ls st σ Q) := (ru_if f_L_law_439 rfl).trans (ru_i_eq _ _ _ _)
set_option maxRecDepth 100000 in
theorem f_L_law_442 : am_cd k_L_law 442 = some ((some .boolean), .iconst 1, (0, 0, 0, 0, 0, .null)) := rfl
theorem s_L_law_442 {ls : am_L} {st : List Value} {σ : am_H} {Q : Option Value → am_H → Prop} : ax k_L_law 442 ls st σ Q = ax k_L_law 443 ls (.int 1 :: st) σ Q := ru_iconst f_L_law_442 (by decide +kernel) rfl
set_option maxRecDepth 100000 in
theorem f_L_law_443 : am_cd k_L_law 443 = some ((some .boolean), .goto 4, (447, 0, 0, 0, 0, .null)) := rfl
theorem s_L_law_443 {ls : am_L} {st : List Value} {σ : am_H} {Q : Option Value → am_H → Prop} : ax k_L_law 443 ls st σ Q = ax k_L_law 447 ls st σ Q := ru_goto f_L_law_443
set_option maxRecDepth 100000 in
theorem f_L_law_446 : am_cd k_L_law 446 = some ((some .boolean), .iconst 0, (0, 0, 0, 0, 0, .null)) := rfl
theorem s_L_law_446 {ls : am_L} {st : List Value} {σ : am_H} {Q : Option Value → am_H → Prop} : ax k_L_law 446 ls st σ Q = ax k_L_law 447 ls (.int 0 :: st) σ Q := ru_iconst f_L_law_446 (by decide +kernel) rfl
set_option maxRecDepth 100000 in
theorem f_L_law_447 : am_cd k_L_law 447 = some ((some .boolean), .invokevirtual 45, (76, 4, 430, 0, 10, .null)) := rfl
theorem s_L_law_447 {ls : am_L} {st : List Value} {σ : am_H} {Q : Option Value → am_H → Prop} {p0 : Int32} {p1 : Int32} {p2 : Int32} {p3 : Int32} {b : Nat} (hi : am_is σ b 10) (h8 : am_s8 st) : ax k_L_law 447 ls (.int p3 :: .int p2 :: .int p1 :: .int p0 :: .ref b :: st) σ Q = ax k_A_has 0 [some (.ref b), some (.int p0), some (.int p1), some (.int p2), some (.int p3)] [] σ (ax_k k_L_law 450 ls st Q) := ru_vir (M' := rk_A_has) f_L_law_447 rfl rfl rfl rfl hi h8 rfl rfl rfl rfl rfl
set_option maxRecDepth 100000 in
theorem f_L_law_450 : am_cd k_L_law 450 = some ((some .boolean), .aload_n 2, (0, 0, 0, 0, 0, .null)) := rfl
theorem s_L_law_450 {a0 a1 a3 : Option Value} {st : List Value} {σ : am_H} {Q : Option Value → am_H → Prop} {x : Nat} : ax k_L_law 450 [a0, a1, some (.ref x), a3] st σ Q = ax k_L_law 451 [a0, a1, some (.ref x), a3] (.ref x :: st) σ Q := ru_loc (q := (_, _)) f_L_law_450 rfl rfl rfl
theorem s_L_law_450n {a0 a1 a3 : Option Value} {st : List Value} {σ : am_H} {Q : Option Value → am_H → Prop} : ax k_L_law 450 [a0, a1, some .null, a3] st σ Q = ax k_L_law 451 [a0, a1, some .null, a3] (.null :: st) σ Q := ru_loc (q := (_, _)) f_L_law_450 rfl rfl rfl
set_option maxRecDepth 100000 in
theorem f_L_law_451 : am_cd k_L_law 451 = some ((some .boolean), .aload_n 0, (0, 0, 0, 0, 0, .null)) := rfl
theorem s_L_law_451 {a1 a2 a3 : Option Value} {st : List Value} {σ : am_H} {Q : Option Value → am_H → Prop} {x : Nat} : ax k_L_law 451 [some (.ref x), a1, a2, a3] st σ Q = ax k_L_law 452 [some (.ref x), a1, a2, a3] (.ref x :: st) σ Q := ru_loc (q := (_, _)) f_L_law_451 rfl rfl rfl
set_option maxRecDepth 100000 in
theorem f_L_law_452 : am_cd k_L_law 452 = some ((some .boolean), .iload_n 3, (0, 0, 0, 0, 0, .null)) := rfl
theorem s_L_law_452 {a0 a1 a2 : Option Value} {st : List Value} {σ : am_H} {Q : Option Value → am_H → Prop} {x : Int32} : ax k_L_law 452 [a0, a1, a2, some (.int x)] st σ Q = ax k_L_law 453 [a0, a1, a2, some (.int x)] (.int x :: st) σ Q := ru_loc (q := (_, _)) f_L_law_452 rfl rfl rfl
set_option maxRecDepth 100000 in
theorem f_L_law_453 : am_cd k_L_law 453 = some ((some .boolean), .iconst 1, (0, 0, 0, 0, 0, .null)) := rfl
theorem s_L_law_453 {ls : am_L} {st : List Value} {σ : am_H} {Q : Option Value → am_H → Prop} : ax k_L_law 453 ls st σ Q = ax k_L_law 454 ls (.int 1 :: st) σ Q := ru_iconst f_L_law_453 (by decide +kernel) rfl
set_option maxRecDepth 100000 in
theorem f_L_law_454 : am_cd k_L_law 454 = some ((some .boolean), .iadd, (0, 0, 0, 0, 0, .null)) := rfl
theorem s_L_law_454 {ls : am_L} {st : List Value} {σ : am_H} {Q : Option Value → am_H → Prop} {x y : Int32} : ax k_L_law 454 ls (.int y :: .int x :: st) σ Q = ax k_L_law 455 ls (.int (x + y) :: st) σ Q := ru_pure f_L_law_454 rfl rfl
set_option maxRecDepth 100000 in
theorem f_L_law_455 : am_cd k_L_law 455 = some ((some .boolean), .iaload, (0, 0, 0, 0, 0, .null)) := rfl
theorem s_L_law_455 {ls : am_L} {st : List Value} {σ : am_H} {Q : Option Value → am_H → Prop} {a : Nat} {j : Int32} : ax k_L_law 455 ls (.int j :: .ref a :: st) σ Q = ax_f (am_j σ a) (fun q => q.1 = 0 ∧ am_ix j q.2.1 ∧ ax k_L_law 456 ls (.int (q.2.2 j.toNatClampNeg) :: st) σ Q) := rv_iald f_L_law_455 rfl
set_option maxRecDepth 100000 in
theorem f_L_law_456 : am_cd k_L_law 456 = some ((some .boolean), .aload_n 0, (0, 0, 0, 0, 0, .null)) := rfl
theorem s_L_law_456 {a1 a2 a3 : Option Value} {st : List Value} {σ : am_H} {Q : Option Value → am_H → Prop} {x : Nat} : ax k_L_law 456 [some (.ref x), a1, a2, a3] st σ Q = ax k_L_law 457 [some (.ref x), a1, a2, a3] (.ref x :: st) σ Q := ru_loc (q := (_, _)) f_L_law_456 rfl rfl rfl
set_option maxRecDepth 100000 in
theorem f_L_law_457 : am_cd k_L_law 457 = some ((some .boolean), .iload_n 3, (0, 0, 0, 0, 0, .null)) := rfl
theorem s_L_law_457 {a0 a1 a2 : Option Value} {st : List Value} {σ : am_H} {Q : Option Value → am_H → Prop} {x : Int32} : ax k_L_law 457 [a0, a1, a2, some (.int x)] st σ Q = ax k_L_law 458 [a0, a1, a2, some (.int x)] (.int x :: st) σ Q := ru_loc (q := (_, _)) f_L_law_457 rfl rfl rfl
set_option maxRecDepth 100000 in
theorem f_L_law_458 : am_cd k_L_law 458 = some ((some .boolean), .iconst 2, (0, 0, 0, 0, 0, .null)) := rfl
theorem s_L_law_458 {ls : am_L} {st : List Value} {σ : am_H} {Q : Option Value → am_H → Prop} : ax k_L_law 458 ls st σ Q = ax k_L_law 459 ls (.int 2 :: st) σ Q := ru_iconst f_L_law_458 (by decide +kernel) rfl
set_option maxRecDepth 100000 in
theorem f_L_law_459 : am_cd k_L_law 459 = some ((some .boolean), .iadd, (0, 0, 0, 0, 0, .null)) := rfl
theorem s_L_law_459 {ls : am_L} {st : List Value} {σ : am_H} {Q : Option Value → am_H → Prop} {x y : Int32} : ax k_L_law 459 ls (.int y :: .int x :: st) σ Q = ax k_L_law 460 ls (.int (x + y) :: st) σ Q := ru_pure f_L_law_459 rfl rfl
set_option maxRecDepth 100000 in
theorem f_L_law_460 : am_cd k_L_law 460 = some ((some .boolean), .iaload, (0, 0, 0, 0, 0, .null)) := rfl
theorem s_L_law_460 {ls : am_L} {st : List Value} {σ : am_H} {Q : Option Value → am_H → Prop} {a : Nat} {j : Int32} : ax k_L_law 460 ls (.int j :: .ref a :: st) σ Q = ax_f (am_j σ a) (fun q => q.1 = 0 ∧ am_ix j q.2.1 ∧ ax k_L_law 461 ls (.int (q.2.2 j.toNatClampNeg) :: st) σ Q) := rv_iald f_L_law_460 rfl
set_option maxRecDepth 100000 in
theorem f_L_law_461 : am_cd k_L_law 461 = some ((some .boolean), .aload_n 0, (0, 0, 0, 0, 0, .null)) := rfl
theorem s_L_law_461 {a1 a2 a3 : Option Value} {st : List Value} {σ : am_H} {Q : Option Value → am_H → Prop} {x : Nat} : ax k_L_law 461 [some (.ref x), a1, a2, a3] st σ Q = ax k_L_law 462 [some (.ref x), a1, a2, a3] (.ref x :: st) σ Q := ru_loc (q := (_, _)) f_L_law_461 rfl rfl rfl
set_option maxRecDepth 100000 in
theorem f_L_law_462 : am_cd k_L_law 462 = some ((some .boolean), .iload_n 3, (0, 0, 0, 0, 0, .null)) := rfl
theorem s_L_law_462 {a0 a1 a2 : Option Value} {st : List Value} {σ : am_H} {Q : Option Value → am_H → Prop} {x : Int32} : ax k_L_law 462 [a0, a1, a2, some (.int x)] st σ Q = ax k_L_law 463 [a0, a1, a2, some (.int x)] (.int x :: st) σ Q := ru_loc (q := (_, _)) f_L_law_462 rfl rfl rfl
set_option maxRecDepth 100000 in
theorem f_L_law_463 : am_cd k_L_law 463 = some ((some .boolean), .iconst 3, (0, 0, 0, 0, 0, .null)) := rfl
theorem s_L_law_463 {ls : am_L} {st : List Value} {σ : am_H} {Q : Option Value → am_H → Prop} : ax k_L_law 463 ls st σ Q = ax k_L_law 464 ls (.int 3 :: st) σ Q := ru_iconst f_L_law_463 (by decide +kernel) rfl
set_option maxRecDepth 100000 in
theorem f_L_law_464 : am_cd k_L_law 464 = some ((some .boolean), .iadd, (0, 0, 0, 0, 0, .null)) := rfl
theorem s_L_law_464 {ls : am_L} {st : List Value} {σ : am_H} {Q : Option Value → am_H → Prop} {x y : Int32} : ax k_L_law 464 ls (.int y :: .int x :: st) σ Q = ax k_L_law 465 ls (.int (x + y) :: st) σ Q := ru_pure f_L_law_464 rfl rfl
set_option maxRecDepth 100000 in
theorem f_L_law_465 : am_cd k_L_law 465 = some ((some .boolean), .iaload, (0, 0, 0, 0, 0, .null)) := rfl
theorem s_L_law_465 {ls : am_L} {st : List Value} {σ : am_H} {Q : Option Value → am_H → Prop} {a : Nat} {j : Int32} : ax k_L_law 465 ls (.int j :: .ref a :: st) σ Q = ax_f (am_j σ a) (fun q => q.1 = 0 ∧ am_ix j q.2.1 ∧ ax k_L_law 466 ls (.int (q.2.2 j.toNatClampNeg) :: st) σ Q) := rv_iald f_L_law_465 rfl
set_option maxRecDepth 100000 in
theorem f_L_law_466 : am_cd k_L_law 466 = some ((some .boolean), .aload_n 0, (0, 0, 0, 0, 0, .null)) := rfl
theorem s_L_law_466 {a1 a2 a3 : Option Value} {st : List Value} {σ : am_H} {Q : Option Value → am_H → Prop} {x : Nat} : ax k_L_law 466 [some (.ref x), a1, a2, a3] st σ Q = ax k_L_law 467 [some (.ref x), a1, a2, a3] (.ref x :: st) σ Q := ru_loc (q := (_, _)) f_L_law_466 rfl rfl rfl
set_option maxRecDepth 100000 in
theorem f_L_law_467 : am_cd k_L_law 467 = some ((some .boolean), .iload_n 3, (0, 0, 0, 0, 0, .null)) := rfl
theorem s_L_law_467 {a0 a1 a2 : Option Value} {st : List Value} {σ : am_H} {Q : Option Value → am_H → Prop} {x : Int32} : ax k_L_law 467 [a0, a1, a2, some (.int x)] st σ Q = ax k_L_law 468 [a0, a1, a2, some (.int x)] (.int x :: st) σ Q := ru_loc (q := (_, _)) f_L_law_467 rfl rfl rfl
set_option maxRecDepth 100000 in
theorem f_L_law_468 : am_cd k_L_law 468 = some ((some .boolean), .iconst 4, (0, 0, 0, 0, 0, .null)) := rfl
theorem s_L_law_468 {ls : am_L} {st : List Value} {σ : am_H} {Q : Option Value → am_H → Prop} : ax k_L_law 468 ls st σ Q = ax k_L_law 469 ls (.int 4 :: st) σ Q := ru_iconst f_L_law_468 (by decide +kernel) rfl
set_option maxRecDepth 100000 in
theorem f_L_law_469 : am_cd k_L_law 469 = some ((some .boolean), .iadd, (0, 0, 0, 0, 0, .null)) := rfl
theorem s_L_law_469 {ls : am_L} {st : List Value} {σ : am_H} {Q : Option Value → am_H → Prop} {x y : Int32} : ax k_L_law 469 ls (.int y :: .int x :: st) σ Q = ax k_L_law 470 ls (.int (x + y) :: st) σ Q := ru_pure f_L_law_469 rfl rfl
set_option maxRecDepth 100000 in
theorem f_L_law_470 : am_cd k_L_law 470 = some ((some .boolean), .iaload, (0, 0, 0, 0, 0, .null)) := rfl
theorem s_L_law_470 {ls : am_L} {st : List Value} {σ : am_H} {Q : Option Value → am_H → Prop} {a : Nat} {j : Int32} : ax k_L_law 470 ls (.int j :: .ref a :: st) σ Q = ax_f (am_j σ a) (fun q => q.1 = 0 ∧ am_ix j q.2.1 ∧ ax k_L_law 471 ls (.int (q.2.2 j.toNatClampNeg) :: st) σ Q) := rv_iald f_L_law_470 rfl
set_option maxRecDepth 100000 in
theorem f_L_law_471 : am_cd k_L_law 471 = some ((some .boolean), .ifCond .eq 7, (478, 0, 0, 0, 0, .null)) := rfl
theorem s_L_law_471 {ls : am_L} {st : List Value} {σ : am_H} {Q : Option Value → am_H → Prop} {x : Int32} : ax k_L_law 471 ls (.int x :: st) σ Q = (if x = 0 then ax k_L_law 478 ls st σ Q else ax k_L_law 474 ls st σ Q) := (ru_if f_L_law_471 rfl).trans (ru_i_eq _ _ _ _)
set_option maxRecDepth 100000 in
theorem f_L_law_474 : am_cd k_L_law 474 = some ((some .boolean), .iconst 1, (0, 0, 0, 0, 0, .null)) := rfl
theorem s_L_law_474 {ls : am_L} {st : List Value} {σ : am_H} {Q : Option Value → am_H → Prop} : ax k_L_law 474 ls st σ Q = ax k_L_law 475 ls (.int 1 :: st) σ Q := ru_iconst f_L_law_474 (by decide +kernel) rfl
set_option maxRecDepth 100000 in
theorem f_L_law_475 : am_cd k_L_law 475 = some ((some .boolean), .goto 4, (479, 0, 0, 0, 0, .null)) := rfl
theorem s_L_law_475 {ls : am_L} {st : List Value} {σ : am_H} {Q : Option Value → am_H → Prop} : ax k_L_law 475 ls st σ Q = ax k_L_law 479 ls st σ Q := ru_goto f_L_law_475
set_option maxRecDepth 100000 in
theorem f_L_law_478 : am_cd k_L_law 478 = some ((some .boolean), .iconst 0, (0, 0, 0, 0, 0, .null)) := rfl
theorem s_L_law_478 {ls : am_L} {st : List Value} {σ : am_H} {Q : Option Value → am_H → Prop} : ax k_L_law 478 ls st σ Q = ax k_L_law 479 ls (.int 0 :: st) σ Q := ru_iconst f_L_law_478 (by decide +kernel) rfl
set_option maxRecDepth 100000 in
theorem f_L_law_479 : am_cd k_L_law 479 = some ((some .boolean), .invokevirtual 49, (128, 4, 1163, 0, 11, .null)) := rfl
theorem s_L_law_479 {ls : am_L} {st : List Value} {σ : am_H} {Q : Option Value → am_H → Prop} {p0 : Int32} {p1 : Int32} {p2 : Int32} {p3 : Int32} {b : Nat} (hi : am_is σ b 11) (h8 : am_s8 st) : ax k_L_law 479 ls (.int p3 :: .int p2 :: .int p1 :: .int p0 :: .ref b :: st) σ Q = ax k_M_has 0 [some (.ref b), some (.int p0), some (.int p1), some (.int p2), some (.int p3)] [] σ (ax_k k_L_law 482 ls st Q) := ru_vir (M' := rk_M_has) f_L_law_479 rfl rfl rfl rfl hi h8 rfl rfl rfl rfl rfl
set_option maxRecDepth 100000 in
theorem f_L_law_482 : am_cd k_L_law 482 = some ((some .boolean), .if_icmp .eq 908, (1390, 0, 0, 0, 0, .null)) := rfl
theorem s_L_law_482 {ls : am_L} {st : List Value} {σ : am_H} {Q : Option Value → am_H → Prop} {x y : Int32} : ax k_L_law 482 ls (.int y :: .int x :: st) σ Q = (if x = y then ax k_L_law 1390 ls st σ Q else ax k_L_law 485 ls st σ Q) := (ru_icmp f_L_law_482 rfl).trans (ru_i_eq _ _ _ _)
set_option maxRecDepth 100000 in
theorem f_L_law_485 : am_cd k_L_law 485 = some ((some .boolean), .iconst 0, (0, 0, 0, 0, 0, .null)) := rfl
theorem s_L_law_485 {ls : am_L} {st : List Value} {σ : am_H} {Q : Option Value → am_H → Prop} : ax k_L_law 485 ls st σ Q = ax k_L_law 486 ls (.int 0 :: st) σ Q := ru_iconst f_L_law_485 (by decide +kernel) rfl
set_option maxRecDepth 100000 in
theorem f_L_law_486 : am_cd k_L_law 486 = some ((some .boolean), .ireturn, (0, 0, 0, 0, 0, .null)) := rfl
theorem s_L_law_486 {ls : am_L} {σ : am_H} {Q : Option Value → am_H → Prop} {v : Int32} : ax k_L_law 486 ls ([.int v]) σ Q = (am_nar .boolean v = true ∧ Q (some (.int v)) σ) := ru_iret f_L_law_486
set_option maxRecDepth 100000 in
theorem f_L_law_487 : am_cd k_L_law 487 = some ((some .boolean), .aload_n 1, (0, 0, 0, 0, 0, .null)) := rfl
theorem s_L_law_487 {a0 a2 a3 : Option Value} {st : List Value} {σ : am_H} {Q : Option Value → am_H → Prop} {x : Nat} : ax k_L_law 487 [a0, some (.ref x), a2, a3] st σ Q = ax k_L_law 488 [a0, some (.ref x), a2, a3] (.ref x :: st) σ Q := ru_loc (q := (_, _)) f_L_law_487 rfl rfl rfl
theorem s_L_law_487n {a0 a2 a3 : Option Value} {st : List Value} {σ : am_H} {Q : Option Value → am_H → Prop} : ax k_L_law 487 [a0, some .null, a2, a3] st σ Q = ax k_L_law 488 [a0, some .null, a2, a3] (.null :: st) σ Q := ru_loc (q := (_, _)) f_L_law_487 rfl rfl rfl
set_option maxRecDepth 100000 in
theorem f_L_law_488 : am_cd k_L_law 488 = some ((some .boolean), .aload_n 0, (0, 0, 0, 0, 0, .null)) := rfl
theorem s_L_law_488 {a1 a2 a3 : Option Value} {st : List Value} {σ : am_H} {Q : Option Value → am_H → Prop} {x : Nat} : ax k_L_law 488 [some (.ref x), a1, a2, a3] st σ Q = ax k_L_law 489 [some (.ref x), a1, a2, a3] (.ref x :: st) σ Q := ru_loc (q := (_, _)) f_L_law_488 rfl rfl rfl
set_option maxRecDepth 100000 in
theorem f_L_law_489 : am_cd k_L_law 489 = some ((some .boolean), .iload_n 3, (0, 0, 0, 0, 0, .null)) := rfl
theorem s_L_law_489 {a0 a1 a2 : Option Value} {st : List Value} {σ : am_H} {Q : Option Value → am_H → Prop} {x : Int32} : ax k_L_law 489 [a0, a1, a2, some (.int x)] st σ Q = ax k_L_law 490 [a0, a1, a2, some (.int x)] (.int x :: st) σ Q := ru_loc (q := (_, _)) f_L_law_489 rfl rfl rfl
set_option maxRecDepth 100000 in
theorem f_L_law_490 : am_cd k_L_law 490 = some ((some .boolean), .iconst 1, (0, 0, 0, 0, 0, .null)) := rfl
theorem s_L_law_490 {ls : am_L} {st : List Value} {σ : am_H} {Q : Option Value → am_H → Prop} : ax k_L_law 490 ls st σ Q = ax k_L_law 491 ls (.int 1 :: st) σ Q := ru_iconst f_L_law_490 (by decide +kernel) rfl
set_option maxRecDepth 100000 in
theorem f_L_law_491 : am_cd k_L_law 491 = some ((some .boolean), .iadd, (0, 0, 0, 0, 0, .null)) := rfl
theorem s_L_law_491 {ls : am_L} {st : List Value} {σ : am_H} {Q : Option Value → am_H → Prop} {x y : Int32} : ax k_L_law 491 ls (.int y :: .int x :: st) σ Q = ax k_L_law 492 ls (.int (x + y) :: st) σ Q := ru_pure f_L_law_491 rfl rfl
set_option maxRecDepth 100000 in
theorem f_L_law_492 : am_cd k_L_law 492 = some ((some .boolean), .iaload, (0, 0, 0, 0, 0, .null)) := rfl
theorem s_L_law_492 {ls : am_L} {st : List Value} {σ : am_H} {Q : Option Value → am_H → Prop} {a : Nat} {j : Int32} : ax k_L_law 492 ls (.int j :: .ref a :: st) σ Q = ax_f (am_j σ a) (fun q => q.1 = 0 ∧ am_ix j q.2.1 ∧ ax k_L_law 493 ls (.int (q.2.2 j.toNatClampNeg) :: st) σ Q) := rv_iald f_L_law_492 rfl
set_option maxRecDepth 100000 in
theorem f_L_law_493 : am_cd k_L_law 493 = some ((some .boolean), .aload_n 0, (0, 0, 0, 0, 0, .null)) := rfl
theorem s_L_law_493 {a1 a2 a3 : Option Value} {st : List Value} {σ : am_H} {Q : Option Value → am_H → Prop} {x : Nat} : ax k_L_law 493 [some (.ref x), a1, a2, a3] st σ Q = ax k_L_law 494 [some (.ref x), a1, a2, a3] (.ref x :: st) σ Q := ru_loc (q := (_, _)) f_L_law_493 rfl rfl rfl
set_option maxRecDepth 100000 in
theorem f_L_law_494 : am_cd k_L_law 494 = some ((some .boolean), .iload_n 3, (0, 0, 0, 0, 0, .null)) := rfl
theorem s_L_law_494 {a0 a1 a2 : Option Value} {st : List Value} {σ : am_H} {Q : Option Value → am_H → Prop} {x : Int32} : ax k_L_law 494 [a0, a1, a2, some (.int x)] st σ Q = ax k_L_law 495 [a0, a1, a2, some (.int x)] (.int x :: st) σ Q := ru_loc (q := (_, _)) f_L_law_494 rfl rfl rfl
set_option maxRecDepth 100000 in
theorem f_L_law_495 : am_cd k_L_law 495 = some ((some .boolean), .iconst 2, (0, 0, 0, 0, 0, .null)) := rfl
theorem s_L_law_495 {ls : am_L} {st : List Value} {σ : am_H} {Q : Option Value → am_H → Prop} : ax k_L_law 495 ls st σ Q = ax k_L_law 496 ls (.int 2 :: st) σ Q := ru_iconst f_L_law_495 (by decide +kernel) rfl
set_option maxRecDepth 100000 in
theorem f_L_law_496 : am_cd k_L_law 496 = some ((some .boolean), .iadd, (0, 0, 0, 0, 0, .null)) := rfl
theorem s_L_law_496 {ls : am_L} {st : List Value} {σ : am_H} {Q : Option Value → am_H → Prop} {x y : Int32} : ax k_L_law 496 ls (.int y :: .int x :: st) σ Q = ax k_L_law 497 ls (.int (x + y) :: st) σ Q := ru_pure f_L_law_496 rfl rfl
set_option maxRecDepth 100000 in
theorem f_L_law_497 : am_cd k_L_law 497 = some ((some .boolean), .iaload, (0, 0, 0, 0, 0, .null)) := rfl
theorem s_L_law_497 {ls : am_L} {st : List Value} {σ : am_H} {Q : Option Value → am_H → Prop} {a : Nat} {j : Int32} : ax k_L_law 497 ls (.int j :: .ref a :: st) σ Q = ax_f (am_j σ a) (fun q => q.1 = 0 ∧ am_ix j q.2.1 ∧ ax k_L_law 498 ls (.int (q.2.2 j.toNatClampNeg) :: st) σ Q) := rv_iald f_L_law_497 rfl
set_option maxRecDepth 100000 in
theorem f_L_law_498 : am_cd k_L_law 498 = some ((some .boolean), .aload_n 0, (0, 0, 0, 0, 0, .null)) := rfl
theorem s_L_law_498 {a1 a2 a3 : Option Value} {st : List Value} {σ : am_H} {Q : Option Value → am_H → Prop} {x : Nat} : ax k_L_law 498 [some (.ref x), a1, a2, a3] st σ Q = ax k_L_law 499 [some (.ref x), a1, a2, a3] (.ref x :: st) σ Q := ru_loc (q := (_, _)) f_L_law_498 rfl rfl rfl
set_option maxRecDepth 100000 in
theorem f_L_law_499 : am_cd k_L_law 499 = some ((some .boolean), .iload_n 3, (0, 0, 0, 0, 0, .null)) := rfl
theorem s_L_law_499 {a0 a1 a2 : Option Value} {st : List Value} {σ : am_H} {Q : Option Value → am_H → Prop} {x : Int32} : ax k_L_law 499 [a0, a1, a2, some (.int x)] st σ Q = ax k_L_law 500 [a0, a1, a2, some (.int x)] (.int x :: st) σ Q := ru_loc (q := (_, _)) f_L_law_499 rfl rfl rfl
set_option maxRecDepth 100000 in
theorem f_L_law_500 : am_cd k_L_law 500 = some ((some .boolean), .iconst 3, (0, 0, 0, 0, 0, .null)) := rfl
theorem s_L_law_500 {ls : am_L} {st : List Value} {σ : am_H} {Q : Option Value → am_H → Prop} : ax k_L_law 500 ls st σ Q = ax k_L_law 501 ls (.int 3 :: st) σ Q := ru_iconst f_L_law_500 (by decide +kernel) rfl
set_option maxRecDepth 100000 in
theorem f_L_law_501 : am_cd k_L_law 501 = some ((some .boolean), .iadd, (0, 0, 0, 0, 0, .null)) := rfl
theorem s_L_law_501 {ls : am_L} {st : List Value} {σ : am_H} {Q : Option Value → am_H → Prop} {x y : Int32} : ax k_L_law 501 ls (.int y :: .int x :: st) σ Q = ax k_L_law 502 ls (.int (x + y) :: st) σ Q := ru_pure f_L_law_501 rfl rfl
set_option maxRecDepth 100000 in
theorem f_L_law_502 : am_cd k_L_law 502 = some ((some .boolean), .iaload, (0, 0, 0, 0, 0, .null)) := rfl
theorem s_L_law_502 {ls : am_L} {st : List Value} {σ : am_H} {Q : Option Value → am_H → Prop} {a : Nat} {j : Int32} : ax k_L_law 502 ls (.int j :: .ref a :: st) σ Q = ax_f (am_j σ a) (fun q => q.1 = 0 ∧ am_ix j q.2.1 ∧ ax k_L_law 503 ls (.int (q.2.2 j.toNatClampNeg) :: st) σ Q) := rv_iald f_L_law_502 rfl
set_option maxRecDepth 100000 in
theorem f_L_law_503 : am_cd k_L_law 503 = some ((some .boolean), .ifCond .eq 7, (510, 0, 0, 0, 0, .null)) := rfl
theorem s_L_law_503 {ls : am_L} {st : List Value} {σ : am_H} {Q : Option Value → am_H → Prop} {x : Int32} : ax k_L_law 503 ls (.int x :: st) σ Q = (if x = 0 then ax k_L_law 510 ls st σ Q else ax k_L_law 506 ls st σ Q) := (ru_if f_L_law_503 rfl).trans (ru_i_eq _ _ _ _)
set_option maxRecDepth 100000 in
theorem f_L_law_506 : am_cd k_L_law 506 = some ((some .boolean), .iconst 1, (0, 0, 0, 0, 0, .null)) := rfl
theorem s_L_law_506 {ls : am_L} {st : List Value} {σ : am_H} {Q : Option Value → am_H → Prop} : ax k_L_law 506 ls st σ Q = ax k_L_law 507 ls (.int 1 :: st) σ Q := ru_iconst f_L_law_506 (by decide +kernel) rfl
set_option maxRecDepth 100000 in
theorem f_L_law_507 : am_cd k_L_law 507 = some ((some .boolean), .goto 4, (511, 0, 0, 0, 0, .null)) := rfl
theorem s_L_law_507 {ls : am_L} {st : List Value} {σ : am_H} {Q : Option Value → am_H → Prop} : ax k_L_law 507 ls st σ Q = ax k_L_law 511 ls st σ Q := ru_goto f_L_law_507
set_option maxRecDepth 100000 in
theorem f_L_law_510 : am_cd k_L_law 510 = some ((some .boolean), .iconst 0, (0, 0, 0, 0, 0, .null)) := rfl
theorem s_L_law_510 {ls : am_L} {st : List Value} {σ : am_H} {Q : Option Value → am_H → Prop} : ax k_L_law 510 ls st σ Q = ax k_L_law 511 ls (.int 0 :: st) σ Q := ru_iconst f_L_law_510 (by decide +kernel) rfl
set_option maxRecDepth 100000 in
theorem f_L_law_511 : am_cd k_L_law 511 = some ((some .boolean), .invokevirtual 50, (77, 3, 458, 0, 10, .null)) := rfl
theorem s_L_law_511 {ls : am_L} {st : List Value} {σ : am_H} {Q : Option Value → am_H → Prop} {p0 : Int32} {p1 : Int32} {p2 : Int32} {b : Nat} (hi : am_is σ b 10) (h8 : am_s8 st) : ax k_L_law 511 ls (.int p2 :: .int p1 :: .int p0 :: .ref b :: st) σ Q = ax k_A_search 0 [some (.ref b), some (.int p0), some (.int p1), some (.int p2)] [] σ (ax_k k_L_law 514 ls st Q) := ru_vir (M' := rk_A_search) f_L_law_511 rfl rfl rfl rfl hi h8 rfl rfl rfl rfl rfl
set_option maxRecDepth 100000 in
theorem f_L_law_514 : am_cd k_L_law 514 = some ((some .boolean), .aload_n 2, (0, 0, 0, 0, 0, .null)) := rfl
theorem s_L_law_514 {a0 a1 a3 : Option Value} {st : List Value} {σ : am_H} {Q : Option Value → am_H → Prop} {x : Nat} : ax k_L_law 514 [a0, a1, some (.ref x), a3] st σ Q = ax k_L_law 515 [a0, a1, some (.ref x), a3] (.ref x :: st) σ Q := ru_loc (q := (_, _)) f_L_law_514 rfl rfl rfl
theorem s_L_law_514n {a0 a1 a3 : Option Value} {st : List Value} {σ : am_H} {Q : Option Value → am_H → Prop} : ax k_L_law 514 [a0, a1, some .null, a3] st σ Q = ax k_L_law 515 [a0, a1, some .null, a3] (.null :: st) σ Q := ru_loc (q := (_, _)) f_L_law_514 rfl rfl rfl
set_option maxRecDepth 100000 in
theorem f_L_law_515 : am_cd k_L_law 515 = some ((some .boolean), .aload_n 0, (0, 0, 0, 0, 0, .null)) := rfl
theorem s_L_law_515 {a1 a2 a3 : Option Value} {st : List Value} {σ : am_H} {Q : Option Value → am_H → Prop} {x : Nat} : ax k_L_law 515 [some (.ref x), a1, a2, a3] st σ Q = ax k_L_law 516 [some (.ref x), a1, a2, a3] (.ref x :: st) σ Q := ru_loc (q := (_, _)) f_L_law_515 rfl rfl rfl
set_option maxRecDepth 100000 in
theorem f_L_law_516 : am_cd k_L_law 516 = some ((some .boolean), .iload_n 3, (0, 0, 0, 0, 0, .null)) := rfl
theorem s_L_law_516 {a0 a1 a2 : Option Value} {st : List Value} {σ : am_H} {Q : Option Value → am_H → Prop} {x : Int32} : ax k_L_law 516 [a0, a1, a2, some (.int x)] st σ Q = ax k_L_law 517 [a0, a1, a2, some (.int x)] (.int x :: st) σ Q := ru_loc (q := (_, _)) f_L_law_516 rfl rfl rfl
set_option maxRecDepth 100000 in
theorem f_L_law_517 : am_cd k_L_law 517 = some ((some .boolean), .iconst 1, (0, 0, 0, 0, 0, .null)) := rfl
theorem s_L_law_517 {ls : am_L} {st : List Value} {σ : am_H} {Q : Option Value → am_H → Prop} : ax k_L_law 517 ls st σ Q = ax k_L_law 518 ls (.int 1 :: st) σ Q := ru_iconst f_L_law_517 (by decide +kernel) rfl
set_option maxRecDepth 100000 in
theorem f_L_law_518 : am_cd k_L_law 518 = some ((some .boolean), .iadd, (0, 0, 0, 0, 0, .null)) := rfl
theorem s_L_law_518 {ls : am_L} {st : List Value} {σ : am_H} {Q : Option Value → am_H → Prop} {x y : Int32} : ax k_L_law 518 ls (.int y :: .int x :: st) σ Q = ax k_L_law 519 ls (.int (x + y) :: st) σ Q := ru_pure f_L_law_518 rfl rfl
set_option maxRecDepth 100000 in
theorem f_L_law_519 : am_cd k_L_law 519 = some ((some .boolean), .iaload, (0, 0, 0, 0, 0, .null)) := rfl
theorem s_L_law_519 {ls : am_L} {st : List Value} {σ : am_H} {Q : Option Value → am_H → Prop} {a : Nat} {j : Int32} : ax k_L_law 519 ls (.int j :: .ref a :: st) σ Q = ax_f (am_j σ a) (fun q => q.1 = 0 ∧ am_ix j q.2.1 ∧ ax k_L_law 520 ls (.int (q.2.2 j.toNatClampNeg) :: st) σ Q) := rv_iald f_L_law_519 rfl
set_option maxRecDepth 100000 in
theorem f_L_law_520 : am_cd k_L_law 520 = some ((some .boolean), .aload_n 0, (0, 0, 0, 0, 0, .null)) := rfl
theorem s_L_law_520 {a1 a2 a3 : Option Value} {st : List Value} {σ : am_H} {Q : Option Value → am_H → Prop} {x : Nat} : ax k_L_law 520 [some (.ref x), a1, a2, a3] st σ Q = ax k_L_law 521 [some (.ref x), a1, a2, a3] (.ref x :: st) σ Q := ru_loc (q := (_, _)) f_L_law_520 rfl rfl rfl
set_option maxRecDepth 100000 in
theorem f_L_law_521 : am_cd k_L_law 521 = some ((some .boolean), .iload_n 3, (0, 0, 0, 0, 0, .null)) := rfl
theorem s_L_law_521 {a0 a1 a2 : Option Value} {st : List Value} {σ : am_H} {Q : Option Value → am_H → Prop} {x : Int32} : ax k_L_law 521 [a0, a1, a2, some (.int x)] st σ Q = ax k_L_law 522 [a0, a1, a2, some (.int x)] (.int x :: st) σ Q := ru_loc (q := (_, _)) f_L_law_521 rfl rfl rfl
set_option maxRecDepth 100000 in
theorem f_L_law_522 : am_cd k_L_law 522 = some ((some .boolean), .iconst 2, (0, 0, 0, 0, 0, .null)) := rfl
theorem s_L_law_522 {ls : am_L} {st : List Value} {σ : am_H} {Q : Option Value → am_H → Prop} : ax k_L_law 522 ls st σ Q = ax k_L_law 523 ls (.int 2 :: st) σ Q := ru_iconst f_L_law_522 (by decide +kernel) rfl
set_option maxRecDepth 100000 in
theorem f_L_law_523 : am_cd k_L_law 523 = some ((some .boolean), .iadd, (0, 0, 0, 0, 0, .null)) := rfl
theorem s_L_law_523 {ls : am_L} {st : List Value} {σ : am_H} {Q : Option Value → am_H → Prop} {x y : Int32} : ax k_L_law 523 ls (.int y :: .int x :: st) σ Q = ax k_L_law 524 ls (.int (x + y) :: st) σ Q := ru_pure f_L_law_523 rfl rfl
set_option maxRecDepth 100000 in
theorem f_L_law_524 : am_cd k_L_law 524 = some ((some .boolean), .iaload, (0, 0, 0, 0, 0, .null)) := rfl
theorem s_L_law_524 {ls : am_L} {st : List Value} {σ : am_H} {Q : Option Value → am_H → Prop} {a : Nat} {j : Int32} : ax k_L_law 524 ls (.int j :: .ref a :: st) σ Q = ax_f (am_j σ a) (fun q => q.1 = 0 ∧ am_ix j q.2.1 ∧ ax k_L_law 525 ls (.int (q.2.2 j.toNatClampNeg) :: st) σ Q) := rv_iald f_L_law_524 rfl
set_option maxRecDepth 100000 in
theorem f_L_law_525 : am_cd k_L_law 525 = some ((some .boolean), .aload_n 0, (0, 0, 0, 0, 0, .null)) := rfl
theorem s_L_law_525 {a1 a2 a3 : Option Value} {st : List Value} {σ : am_H} {Q : Option Value → am_H → Prop} {x : Nat} : ax k_L_law 525 [some (.ref x), a1, a2, a3] st σ Q = ax k_L_law 526 [some (.ref x), a1, a2, a3] (.ref x :: st) σ Q := ru_loc (q := (_, _)) f_L_law_525 rfl rfl rfl
set_option maxRecDepth 100000 in
theorem f_L_law_526 : am_cd k_L_law 526 = some ((some .boolean), .iload_n 3, (0, 0, 0, 0, 0, .null)) := rfl
theorem s_L_law_526 {a0 a1 a2 : Option Value} {st : List Value} {σ : am_H} {Q : Option Value → am_H → Prop} {x : Int32} : ax k_L_law 526 [a0, a1, a2, some (.int x)] st σ Q = ax k_L_law 527 [a0, a1, a2, some (.int x)] (.int x :: st) σ Q := ru_loc (q := (_, _)) f_L_law_526 rfl rfl rfl
set_option maxRecDepth 100000 in
theorem f_L_law_527 : am_cd k_L_law 527 = some ((some .boolean), .iconst 3, (0, 0, 0, 0, 0, .null)) := rfl
theorem s_L_law_527 {ls : am_L} {st : List Value} {σ : am_H} {Q : Option Value → am_H → Prop} : ax k_L_law 527 ls st σ Q = ax k_L_law 528 ls (.int 3 :: st) σ Q := ru_iconst f_L_law_527 (by decide +kernel) rfl
set_option maxRecDepth 100000 in
theorem f_L_law_528 : am_cd k_L_law 528 = some ((some .boolean), .iadd, (0, 0, 0, 0, 0, .null)) := rfl
theorem s_L_law_528 {ls : am_L} {st : List Value} {σ : am_H} {Q : Option Value → am_H → Prop} {x y : Int32} : ax k_L_law 528 ls (.int y :: .int x :: st) σ Q = ax k_L_law 529 ls (.int (x + y) :: st) σ Q := ru_pure f_L_law_528 rfl rfl
set_option maxRecDepth 100000 in
theorem f_L_law_529 : am_cd k_L_law 529 = some ((some .boolean), .iaload, (0, 0, 0, 0, 0, .null)) := rfl
theorem s_L_law_529 {ls : am_L} {st : List Value} {σ : am_H} {Q : Option Value → am_H → Prop} {a : Nat} {j : Int32} : ax k_L_law 529 ls (.int j :: .ref a :: st) σ Q = ax_f (am_j σ a) (fun q => q.1 = 0 ∧ am_ix j q.2.1 ∧ ax k_L_law 530 ls (.int (q.2.2 j.toNatClampNeg) :: st) σ Q) := rv_iald f_L_law_529 rfl
set_option maxRecDepth 100000 in
theorem f_L_law_530 : am_cd k_L_law 530 = some ((some .boolean), .ifCond .eq 7, (537, 0, 0, 0, 0, .null)) := rfl
theorem s_L_law_530 {ls : am_L} {st : List Value} {σ : am_H} {Q : Option Value → am_H → Prop} {x : Int32} : ax k_L_law 530 ls (.int x :: st) σ Q = (if x = 0 then ax k_L_law 537 ls st σ Q else ax k_L_law 533 ls st σ Q) := (ru_if f_L_law_530 rfl).trans (ru_i_eq _ _ _ _)
set_option maxRecDepth 100000 in
theorem f_L_law_533 : am_cd k_L_law 533 = some ((some .boolean), .iconst 1, (0, 0, 0, 0, 0, .null)) := rfl
theorem s_L_law_533 {ls : am_L} {st : List Value} {σ : am_H} {Q : Option Value → am_H → Prop} : ax k_L_law 533 ls st σ Q = ax k_L_law 534 ls (.int 1 :: st) σ Q := ru_iconst f_L_law_533 (by decide +kernel) rfl
set_option maxRecDepth 100000 in
theorem f_L_law_534 : am_cd k_L_law 534 = some ((some .boolean), .goto 4, (538, 0, 0, 0, 0, .null)) := rfl
theorem s_L_law_534 {ls : am_L} {st : List Value} {σ : am_H} {Q : Option Value → am_H → Prop} : ax k_L_law 534 ls st σ Q = ax k_L_law 538 ls st σ Q := ru_goto f_L_law_534
set_option maxRecDepth 100000 in
theorem f_L_law_537 : am_cd k_L_law 537 = some ((some .boolean), .iconst 0, (0, 0, 0, 0, 0, .null)) := rfl
theorem s_L_law_537 {ls : am_L} {st : List Value} {σ : am_H} {Q : Option Value → am_H → Prop} : ax k_L_law 537 ls st σ Q = ax k_L_law 538 ls (.int 0 :: st) σ Q := ru_iconst f_L_law_537 (by decide +kernel) rfl
set_option maxRecDepth 100000 in
theorem f_L_law_538 : am_cd k_L_law 538 = some ((some .boolean), .invokevirtual 54, (130, 3, 1171, 0, 11, .null)) := rfl
theorem s_L_law_538 {ls : am_L} {st : List Value} {σ : am_H} {Q : Option Value → am_H → Prop} {p0 : Int32} {p1 : Int32} {p2 : Int32} {b : Nat} (hi : am_is σ b 11) (h8 : am_s8 st) : ax k_L_law 538 ls (.int p2 :: .int p1 :: .int p0 :: .ref b :: st) σ Q = ax k_M_search 0 [some (.ref b), some (.int p0), some (.int p1), some (.int p2), none, none] [] σ (ax_k k_L_law 541 ls st Q) := ru_vir (M' := rk_M_search) f_L_law_538 rfl rfl rfl rfl hi h8 rfl rfl rfl rfl rfl
set_option maxRecDepth 100000 in
theorem f_L_law_541 : am_cd k_L_law 541 = some ((some .boolean), .if_icmp .eq 849, (1390, 0, 0, 0, 0, .null)) := rfl
theorem s_L_law_541 {ls : am_L} {st : List Value} {σ : am_H} {Q : Option Value → am_H → Prop} {x y : Int32} : ax k_L_law 541 ls (.int y :: .int x :: st) σ Q = (if x = y then ax k_L_law 1390 ls st σ Q else ax k_L_law 544 ls st σ Q) := (ru_icmp f_L_law_541 rfl).trans (ru_i_eq _ _ _ _)
set_option maxRecDepth 100000 in
theorem f_L_law_544 : am_cd k_L_law 544 = some ((some .boolean), .iconst 0, (0, 0, 0, 0, 0, .null)) := rfl
theorem s_L_law_544 {ls : am_L} {st : List Value} {σ : am_H} {Q : Option Value → am_H → Prop} : ax k_L_law 544 ls st σ Q = ax k_L_law 545 ls (.int 0 :: st) σ Q := ru_iconst f_L_law_544 (by decide +kernel) rfl
set_option maxRecDepth 100000 in
theorem f_L_law_545 : am_cd k_L_law 545 = some ((some .boolean), .ireturn, (0, 0, 0, 0, 0, .null)) := rfl
theorem s_L_law_545 {ls : am_L} {σ : am_H} {Q : Option Value → am_H → Prop} {v : Int32} : ax k_L_law 545 ls ([.int v]) σ Q = (am_nar .boolean v = true ∧ Q (some (.int v)) σ) := ru_iret f_L_law_545
set_option maxRecDepth 100000 in
theorem f_L_law_546 : am_cd k_L_law 546 = some ((some .boolean), .aload_n 1, (0, 0, 0, 0, 0, .null)) := rfl
theorem s_L_law_546 {a0 a2 a3 : Option Value} {st : List Value} {σ : am_H} {Q : Option Value → am_H → Prop} {x : Nat} : ax k_L_law 546 [a0, some (.ref x), a2, a3] st σ Q = ax k_L_law 547 [a0, some (.ref x), a2, a3] (.ref x :: st) σ Q := ru_loc (q := (_, _)) f_L_law_546 rfl rfl rfl
theorem s_L_law_546n {a0 a2 a3 : Option Value} {st : List Value} {σ : am_H} {Q : Option Value → am_H → Prop} : ax k_L_law 546 [a0, some .null, a2, a3] st σ Q = ax k_L_law 547 [a0, some .null, a2, a3] (.null :: st) σ Q := ru_loc (q := (_, _)) f_L_law_546 rfl rfl rfl
set_option maxRecDepth 100000 in
theorem f_L_law_547 : am_cd k_L_law 547 = some ((some .boolean), .aload_n 0, (0, 0, 0, 0, 0, .null)) := rfl
theorem s_L_law_547 {a1 a2 a3 : Option Value} {st : List Value} {σ : am_H} {Q : Option Value → am_H → Prop} {x : Nat} : ax k_L_law 547 [some (.ref x), a1, a2, a3] st σ Q = ax k_L_law 548 [some (.ref x), a1, a2, a3] (.ref x :: st) σ Q := ru_loc (q := (_, _)) f_L_law_547 rfl rfl rfl
set_option maxRecDepth 100000 in
theorem f_L_law_548 : am_cd k_L_law 548 = some ((some .boolean), .iload_n 3, (0, 0, 0, 0, 0, .null)) := rfl
theorem s_L_law_548 {a0 a1 a2 : Option Value} {st : List Value} {σ : am_H} {Q : Option Value → am_H → Prop} {x : Int32} : ax k_L_law 548 [a0, a1, a2, some (.int x)] st σ Q = ax k_L_law 549 [a0, a1, a2, some (.int x)] (.int x :: st) σ Q := ru_loc (q := (_, _)) f_L_law_548 rfl rfl rfl
set_option maxRecDepth 100000 in
theorem f_L_law_549 : am_cd k_L_law 549 = some ((some .boolean), .iconst 1, (0, 0, 0, 0, 0, .null)) := rfl
theorem s_L_law_549 {ls : am_L} {st : List Value} {σ : am_H} {Q : Option Value → am_H → Prop} : ax k_L_law 549 ls st σ Q = ax k_L_law 550 ls (.int 1 :: st) σ Q := ru_iconst f_L_law_549 (by decide +kernel) rfl
set_option maxRecDepth 100000 in
theorem f_L_law_550 : am_cd k_L_law 550 = some ((some .boolean), .iadd, (0, 0, 0, 0, 0, .null)) := rfl
theorem s_L_law_550 {ls : am_L} {st : List Value} {σ : am_H} {Q : Option Value → am_H → Prop} {x y : Int32} : ax k_L_law 550 ls (.int y :: .int x :: st) σ Q = ax k_L_law 551 ls (.int (x + y) :: st) σ Q := ru_pure f_L_law_550 rfl rfl
set_option maxRecDepth 100000 in
theorem f_L_law_551 : am_cd k_L_law 551 = some ((some .boolean), .iaload, (0, 0, 0, 0, 0, .null)) := rfl
theorem s_L_law_551 {ls : am_L} {st : List Value} {σ : am_H} {Q : Option Value → am_H → Prop} {a : Nat} {j : Int32} : ax k_L_law 551 ls (.int j :: .ref a :: st) σ Q = ax_f (am_j σ a) (fun q => q.1 = 0 ∧ am_ix j q.2.1 ∧ ax k_L_law 552 ls (.int (q.2.2 j.toNatClampNeg) :: st) σ Q) := rv_iald f_L_law_551 rfl
set_option maxRecDepth 100000 in
theorem f_L_law_552 : am_cd k_L_law 552 = some ((some .boolean), .aload_n 0, (0, 0, 0, 0, 0, .null)) := rfl
theorem s_L_law_552 {a1 a2 a3 : Option Value} {st : List Value} {σ : am_H} {Q : Option Value → am_H → Prop} {x : Nat} : ax k_L_law 552 [some (.ref x), a1, a2, a3] st σ Q = ax k_L_law 553 [some (.ref x), a1, a2, a3] (.ref x :: st) σ Q := ru_loc (q := (_, _)) f_L_law_552 rfl rfl rfl
set_option maxRecDepth 100000 in
theorem f_L_law_553 : am_cd k_L_law 553 = some ((some .boolean), .iload_n 3, (0, 0, 0, 0, 0, .null)) := rfl
theorem s_L_law_553 {a0 a1 a2 : Option Value} {st : List Value} {σ : am_H} {Q : Option Value → am_H → Prop} {x : Int32} : ax k_L_law 553 [a0, a1, a2, some (.int x)] st σ Q = ax k_L_law 554 [a0, a1, a2, some (.int x)] (.int x :: st) σ Q := ru_loc (q := (_, _)) f_L_law_553 rfl rfl rfl
set_option maxRecDepth 100000 in
theorem f_L_law_554 : am_cd k_L_law 554 = some ((some .boolean), .iconst 2, (0, 0, 0, 0, 0, .null)) := rfl
theorem s_L_law_554 {ls : am_L} {st : List Value} {σ : am_H} {Q : Option Value → am_H → Prop} : ax k_L_law 554 ls st σ Q = ax k_L_law 555 ls (.int 2 :: st) σ Q := ru_iconst f_L_law_554 (by decide +kernel) rfl
set_option maxRecDepth 100000 in
theorem f_L_law_555 : am_cd k_L_law 555 = some ((some .boolean), .iadd, (0, 0, 0, 0, 0, .null)) := rfl
theorem s_L_law_555 {ls : am_L} {st : List Value} {σ : am_H} {Q : Option Value → am_H → Prop} {x y : Int32} : ax k_L_law 555 ls (.int y :: .int x :: st) σ Q = ax k_L_law 556 ls (.int (x + y) :: st) σ Q := ru_pure f_L_law_555 rfl rfl
set_option maxRecDepth 100000 in
theorem f_L_law_556 : am_cd k_L_law 556 = some ((some .boolean), .iaload, (0, 0, 0, 0, 0, .null)) := rfl
theorem s_L_law_556 {ls : am_L} {st : List Value} {σ : am_H} {Q : Option Value → am_H → Prop} {a : Nat} {j : Int32} : ax k_L_law 556 ls (.int j :: .ref a :: st) σ Q = ax_f (am_j σ a) (fun q => q.1 = 0 ∧ am_ix j q.2.1 ∧ ax k_L_law 557 ls (.int (q.2.2 j.toNatClampNeg) :: st) σ Q) := rv_iald f_L_law_556 rfl
set_option maxRecDepth 100000 in
theorem f_L_law_557 : am_cd k_L_law 557 = some ((some .boolean), .aload_n 0, (0, 0, 0, 0, 0, .null)) := rfl
theorem s_L_law_557 {a1 a2 a3 : Option Value} {st : List Value} {σ : am_H} {Q : Option Value → am_H → Prop} {x : Nat} : ax k_L_law 557 [some (.ref x), a1, a2, a3] st σ Q = ax k_L_law 558 [some (.ref x), a1, a2, a3] (.ref x :: st) σ Q := ru_loc (q := (_, _)) f_L_law_557 rfl rfl rfl
set_option maxRecDepth 100000 in
theorem f_L_law_558 : am_cd k_L_law 558 = some ((some .boolean), .iload_n 3, (0, 0, 0, 0, 0, .null)) := rfl
theorem s_L_law_558 {a0 a1 a2 : Option Value} {st : List Value} {σ : am_H} {Q : Option Value → am_H → Prop} {x : Int32} : ax k_L_law 558 [a0, a1, a2, some (.int x)] st σ Q = ax k_L_law 559 [a0, a1, a2, some (.int x)] (.int x :: st) σ Q := ru_loc (q := (_, _)) f_L_law_558 rfl rfl rfl
set_option maxRecDepth 100000 in
theorem f_L_law_559 : am_cd k_L_law 559 = some ((some .boolean), .iconst 3, (0, 0, 0, 0, 0, .null)) := rfl
theorem s_L_law_559 {ls : am_L} {st : List Value} {σ : am_H} {Q : Option Value → am_H → Prop} : ax k_L_law 559 ls st σ Q = ax k_L_law 560 ls (.int 3 :: st) σ Q := ru_iconst f_L_law_559 (by decide +kernel) rfl
set_option maxRecDepth 100000 in
theorem f_L_law_560 : am_cd k_L_law 560 = some ((some .boolean), .iadd, (0, 0, 0, 0, 0, .null)) := rfl
theorem s_L_law_560 {ls : am_L} {st : List Value} {σ : am_H} {Q : Option Value → am_H → Prop} {x y : Int32} : ax k_L_law 560 ls (.int y :: .int x :: st) σ Q = ax k_L_law 561 ls (.int (x + y) :: st) σ Q := ru_pure f_L_law_560 rfl rfl
set_option maxRecDepth 100000 in
theorem f_L_law_561 : am_cd k_L_law 561 = some ((some .boolean), .iaload, (0, 0, 0, 0, 0, .null)) := rfl
theorem s_L_law_561 {ls : am_L} {st : List Value} {σ : am_H} {Q : Option Value → am_H → Prop} {a : Nat} {j : Int32} : ax k_L_law 561 ls (.int j :: .ref a :: st) σ Q = ax_f (am_j σ a) (fun q => q.1 = 0 ∧ am_ix j q.2.1 ∧ ax k_L_law 562 ls (.int (q.2.2 j.toNatClampNeg) :: st) σ Q) := rv_iald f_L_law_561 rfl
set_option maxRecDepth 100000 in
theorem f_L_law_562 : am_cd k_L_law 562 = some ((some .boolean), .ifCond .eq 7, (569, 0, 0, 0, 0, .null)) := rfl
theorem s_L_law_562 {ls : am_L} {st : List Value} {σ : am_H} {Q : Option Value → am_H → Prop} {x : Int32} : ax k_L_law 562 ls (.int x :: st) σ Q = (if x = 0 then ax k_L_law 569 ls st σ Q else ax k_L_law 565 ls st σ Q) := (ru_if f_L_law_562 rfl).trans (ru_i_eq _ _ _ _)
set_option maxRecDepth 100000 in
theorem f_L_law_565 : am_cd k_L_law 565 = some ((some .boolean), .iconst 1, (0, 0, 0, 0, 0, .null)) := rfl
theorem s_L_law_565 {ls : am_L} {st : List Value} {σ : am_H} {Q : Option Value → am_H → Prop} : ax k_L_law 565 ls st σ Q = ax k_L_law 566 ls (.int 1 :: st) σ Q := ru_iconst f_L_law_565 (by decide +kernel) rfl
set_option maxRecDepth 100000 in
theorem f_L_law_566 : am_cd k_L_law 566 = some ((some .boolean), .goto 4, (570, 0, 0, 0, 0, .null)) := rfl
theorem s_L_law_566 {ls : am_L} {st : List Value} {σ : am_H} {Q : Option Value → am_H → Prop} : ax k_L_law 566 ls st σ Q = ax k_L_law 570 ls st σ Q := ru_goto f_L_law_566
set_option maxRecDepth 100000 in
theorem f_L_law_569 : am_cd k_L_law 569 = some ((some .boolean), .iconst 0, (0, 0, 0, 0, 0, .null)) := rfl
theorem s_L_law_569 {ls : am_L} {st : List Value} {σ : am_H} {Q : Option Value → am_H → Prop} : ax k_L_law 569 ls st σ Q = ax k_L_law 570 ls (.int 0 :: st) σ Q := ru_iconst f_L_law_569 (by decide +kernel) rfl
set_option maxRecDepth 100000 in
theorem f_L_law_570 : am_cd k_L_law 570 = some ((some .boolean), .aload_n 0, (0, 0, 0, 0, 0, .null)) := rfl
theorem s_L_law_570 {a1 a2 a3 : Option Value} {st : List Value} {σ : am_H} {Q : Option Value → am_H → Prop} {x : Nat} : ax k_L_law 570 [some (.ref x), a1, a2, a3] st σ Q = ax k_L_law 571 [some (.ref x), a1, a2, a3] (.ref x :: st) σ Q := ru_loc (q := (_, _)) f_L_law_570 rfl rfl rfl
set_option maxRecDepth 100000 in
theorem f_L_law_571 : am_cd k_L_law 571 = some ((some .boolean), .iload_n 3, (0, 0, 0, 0, 0, .null)) := rfl
theorem s_L_law_571 {a0 a1 a2 : Option Value} {st : List Value} {σ : am_H} {Q : Option Value → am_H → Prop} {x : Int32} : ax k_L_law 571 [a0, a1, a2, some (.int x)] st σ Q = ax k_L_law 572 [a0, a1, a2, some (.int x)] (.int x :: st) σ Q := ru_loc (q := (_, _)) f_L_law_571 rfl rfl rfl
set_option maxRecDepth 100000 in
theorem f_L_law_572 : am_cd k_L_law 572 = some ((some .boolean), .iconst 4, (0, 0, 0, 0, 0, .null)) := rfl
theorem s_L_law_572 {ls : am_L} {st : List Value} {σ : am_H} {Q : Option Value → am_H → Prop} : ax k_L_law 572 ls st σ Q = ax k_L_law 573 ls (.int 4 :: st) σ Q := ru_iconst f_L_law_572 (by decide +kernel) rfl
set_option maxRecDepth 100000 in
theorem f_L_law_573 : am_cd k_L_law 573 = some ((some .boolean), .iadd, (0, 0, 0, 0, 0, .null)) := rfl
theorem s_L_law_573 {ls : am_L} {st : List Value} {σ : am_H} {Q : Option Value → am_H → Prop} {x y : Int32} : ax k_L_law 573 ls (.int y :: .int x :: st) σ Q = ax k_L_law 574 ls (.int (x + y) :: st) σ Q := ru_pure f_L_law_573 rfl rfl
set_option maxRecDepth 100000 in
theorem f_L_law_574 : am_cd k_L_law 574 = some ((some .boolean), .iaload, (0, 0, 0, 0, 0, .null)) := rfl
theorem s_L_law_574 {ls : am_L} {st : List Value} {σ : am_H} {Q : Option Value → am_H → Prop} {a : Nat} {j : Int32} : ax k_L_law 574 ls (.int j :: .ref a :: st) σ Q = ax_f (am_j σ a) (fun q => q.1 = 0 ∧ am_ix j q.2.1 ∧ ax k_L_law 575 ls (.int (q.2.2 j.toNatClampNeg) :: st) σ Q) := rv_iald f_L_law_574 rfl
set_option maxRecDepth 100000 in
theorem f_L_law_575 : am_cd k_L_law 575 = some ((some .boolean), .invokevirtual 55, (78, 4, 468, 0, 10, .null)) := rfl
theorem s_L_law_575 {ls : am_L} {st : List Value} {σ : am_H} {Q : Option Value → am_H → Prop} {p0 : Int32} {p1 : Int32} {p2 : Int32} {p3 : Int32} {b : Nat} (hi : am_is σ b 10) (h8 : am_s8 st) : ax k_L_law 575 ls (.int p3 :: .int p2 :: .int p1 :: .int p0 :: .ref b :: st) σ Q = ax k_A_found 0 [some (.ref b), some (.int p0), some (.int p1), some (.int p2), some (.int p3), none, none, none, none] [] σ (ax_k k_L_law 578 ls st Q) := ru_vir (M' := rk_A_found) f_L_law_575 rfl rfl rfl rfl hi h8 rfl rfl rfl rfl rfl
set_option maxRecDepth 100000 in
theorem f_L_law_578 : am_cd k_L_law 578 = some ((some .boolean), .aload_n 2, (0, 0, 0, 0, 0, .null)) := rfl
theorem s_L_law_578 {a0 a1 a3 : Option Value} {st : List Value} {σ : am_H} {Q : Option Value → am_H → Prop} {x : Nat} : ax k_L_law 578 [a0, a1, some (.ref x), a3] st σ Q = ax k_L_law 579 [a0, a1, some (.ref x), a3] (.ref x :: st) σ Q := ru_loc (q := (_, _)) f_L_law_578 rfl rfl rfl
theorem s_L_law_578n {a0 a1 a3 : Option Value} {st : List Value} {σ : am_H} {Q : Option Value → am_H → Prop} : ax k_L_law 578 [a0, a1, some .null, a3] st σ Q = ax k_L_law 579 [a0, a1, some .null, a3] (.null :: st) σ Q := ru_loc (q := (_, _)) f_L_law_578 rfl rfl rfl
set_option maxRecDepth 100000 in
theorem f_L_law_579 : am_cd k_L_law 579 = some ((some .boolean), .aload_n 0, (0, 0, 0, 0, 0, .null)) := rfl
theorem s_L_law_579 {a1 a2 a3 : Option Value} {st : List Value} {σ : am_H} {Q : Option Value → am_H → Prop} {x : Nat} : ax k_L_law 579 [some (.ref x), a1, a2, a3] st σ Q = ax k_L_law 580 [some (.ref x), a1, a2, a3] (.ref x :: st) σ Q := ru_loc (q := (_, _)) f_L_law_579 rfl rfl rfl
set_option maxRecDepth 100000 in
theorem f_L_law_580 : am_cd k_L_law 580 = some ((some .boolean), .iload_n 3, (0, 0, 0, 0, 0, .null)) := rfl
theorem s_L_law_580 {a0 a1 a2 : Option Value} {st : List Value} {σ : am_H} {Q : Option Value → am_H → Prop} {x : Int32} : ax k_L_law 580 [a0, a1, a2, some (.int x)] st σ Q = ax k_L_law 581 [a0, a1, a2, some (.int x)] (.int x :: st) σ Q := ru_loc (q := (_, _)) f_L_law_580 rfl rfl rfl
set_option maxRecDepth 100000 in
theorem f_L_law_581 : am_cd k_L_law 581 = some ((some .boolean), .iconst 1, (0, 0, 0, 0, 0, .null)) := rfl
theorem s_L_law_581 {ls : am_L} {st : List Value} {σ : am_H} {Q : Option Value → am_H → Prop} : ax k_L_law 581 ls st σ Q = ax k_L_law 582 ls (.int 1 :: st) σ Q := ru_iconst f_L_law_581 (by decide +kernel) rfl
set_option maxRecDepth 100000 in
theorem f_L_law_582 : am_cd k_L_law 582 = some ((some .boolean), .iadd, (0, 0, 0, 0, 0, .null)) := rfl
theorem s_L_law_582 {ls : am_L} {st : List Value} {σ : am_H} {Q : Option Value → am_H → Prop} {x y : Int32} : ax k_L_law 582 ls (.int y :: .int x :: st) σ Q = ax k_L_law 583 ls (.int (x + y) :: st) σ Q := ru_pure f_L_law_582 rfl rfl
set_option maxRecDepth 100000 in
theorem f_L_law_583 : am_cd k_L_law 583 = some ((some .boolean), .iaload, (0, 0, 0, 0, 0, .null)) := rfl
theorem s_L_law_583 {ls : am_L} {st : List Value} {σ : am_H} {Q : Option Value → am_H → Prop} {a : Nat} {j : Int32} : ax k_L_law 583 ls (.int j :: .ref a :: st) σ Q = ax_f (am_j σ a) (fun q => q.1 = 0 ∧ am_ix j q.2.1 ∧ ax k_L_law 584 ls (.int (q.2.2 j.toNatClampNeg) :: st) σ Q) := rv_iald f_L_law_583 rfl
set_option maxRecDepth 100000 in
theorem f_L_law_584 : am_cd k_L_law 584 = some ((some .boolean), .aload_n 0, (0, 0, 0, 0, 0, .null)) := rfl
theorem s_L_law_584 {a1 a2 a3 : Option Value} {st : List Value} {σ : am_H} {Q : Option Value → am_H → Prop} {x : Nat} : ax k_L_law 584 [some (.ref x), a1, a2, a3] st σ Q = ax k_L_law 585 [some (.ref x), a1, a2, a3] (.ref x :: st) σ Q := ru_loc (q := (_, _)) f_L_law_584 rfl rfl rfl
set_option maxRecDepth 100000 in
theorem f_L_law_585 : am_cd k_L_law 585 = some ((some .boolean), .iload_n 3, (0, 0, 0, 0, 0, .null)) := rfl
theorem s_L_law_585 {a0 a1 a2 : Option Value} {st : List Value} {σ : am_H} {Q : Option Value → am_H → Prop} {x : Int32} : ax k_L_law 585 [a0, a1, a2, some (.int x)] st σ Q = ax k_L_law 586 [a0, a1, a2, some (.int x)] (.int x :: st) σ Q := ru_loc (q := (_, _)) f_L_law_585 rfl rfl rfl
set_option maxRecDepth 100000 in
theorem f_L_law_586 : am_cd k_L_law 586 = some ((some .boolean), .iconst 2, (0, 0, 0, 0, 0, .null)) := rfl
theorem s_L_law_586 {ls : am_L} {st : List Value} {σ : am_H} {Q : Option Value → am_H → Prop} : ax k_L_law 586 ls st σ Q = ax k_L_law 587 ls (.int 2 :: st) σ Q := ru_iconst f_L_law_586 (by decide +kernel) rfl
set_option maxRecDepth 100000 in
theorem f_L_law_587 : am_cd k_L_law 587 = some ((some .boolean), .iadd, (0, 0, 0, 0, 0, .null)) := rfl
theorem s_L_law_587 {ls : am_L} {st : List Value} {σ : am_H} {Q : Option Value → am_H → Prop} {x y : Int32} : ax k_L_law 587 ls (.int y :: .int x :: st) σ Q = ax k_L_law 588 ls (.int (x + y) :: st) σ Q := ru_pure f_L_law_587 rfl rfl
set_option maxRecDepth 100000 in
theorem f_L_law_588 : am_cd k_L_law 588 = some ((some .boolean), .iaload, (0, 0, 0, 0, 0, .null)) := rfl
theorem s_L_law_588 {ls : am_L} {st : List Value} {σ : am_H} {Q : Option Value → am_H → Prop} {a : Nat} {j : Int32} : ax k_L_law 588 ls (.int j :: .ref a :: st) σ Q = ax_f (am_j σ a) (fun q => q.1 = 0 ∧ am_ix j q.2.1 ∧ ax k_L_law 589 ls (.int (q.2.2 j.toNatClampNeg) :: st) σ Q) := rv_iald f_L_law_588 rfl
set_option maxRecDepth 100000 in
theorem f_L_law_589 : am_cd k_L_law 589 = some ((some .boolean), .aload_n 0, (0, 0, 0, 0, 0, .null)) := rfl
theorem s_L_law_589 {a1 a2 a3 : Option Value} {st : List Value} {σ : am_H} {Q : Option Value → am_H → Prop} {x : Nat} : ax k_L_law 589 [some (.ref x), a1, a2, a3] st σ Q = ax k_L_law 590 [some (.ref x), a1, a2, a3] (.ref x :: st) σ Q := ru_loc (q := (_, _)) f_L_law_589 rfl rfl rfl
set_option maxRecDepth 100000 in
theorem f_L_law_590 : am_cd k_L_law 590 = some ((some .boolean), .iload_n 3, (0, 0, 0, 0, 0, .null)) := rfl
theorem s_L_law_590 {a0 a1 a2 : Option Value} {st : List Value} {σ : am_H} {Q : Option Value → am_H → Prop} {x : Int32} : ax k_L_law 590 [a0, a1, a2, some (.int x)] st σ Q = ax k_L_law 591 [a0, a1, a2, some (.int x)] (.int x :: st) σ Q := ru_loc (q := (_, _)) f_L_law_590 rfl rfl rfl
set_option maxRecDepth 100000 in
theorem f_L_law_591 : am_cd k_L_law 591 = some ((some .boolean), .iconst 3, (0, 0, 0, 0, 0, .null)) := rfl
theorem s_L_law_591 {ls : am_L} {st : List Value} {σ : am_H} {Q : Option Value → am_H → Prop} : ax k_L_law 591 ls st σ Q = ax k_L_law 592 ls (.int 3 :: st) σ Q := ru_iconst f_L_law_591 (by decide +kernel) rfl
set_option maxRecDepth 100000 in
theorem f_L_law_592 : am_cd k_L_law 592 = some ((some .boolean), .iadd, (0, 0, 0, 0, 0, .null)) := rfl
theorem s_L_law_592 {ls : am_L} {st : List Value} {σ : am_H} {Q : Option Value → am_H → Prop} {x y : Int32} : ax k_L_law 592 ls (.int y :: .int x :: st) σ Q = ax k_L_law 593 ls (.int (x + y) :: st) σ Q := ru_pure f_L_law_592 rfl rfl
set_option maxRecDepth 100000 in
theorem f_L_law_593 : am_cd k_L_law 593 = some ((some .boolean), .iaload, (0, 0, 0, 0, 0, .null)) := rfl
theorem s_L_law_593 {ls : am_L} {st : List Value} {σ : am_H} {Q : Option Value → am_H → Prop} {a : Nat} {j : Int32} : ax k_L_law 593 ls (.int j :: .ref a :: st) σ Q = ax_f (am_j σ a) (fun q => q.1 = 0 ∧ am_ix j q.2.1 ∧ ax k_L_law 594 ls (.int (q.2.2 j.toNatClampNeg) :: st) σ Q) := rv_iald f_L_law_593 rfl
set_option maxRecDepth 100000 in
theorem f_L_law_594 : am_cd k_L_law 594 = some ((some .boolean), .ifCond .eq 7, (601, 0, 0, 0, 0, .null)) := rfl
theorem s_L_law_594 {ls : am_L} {st : List Value} {σ : am_H} {Q : Option Value → am_H → Prop} {x : Int32} : ax k_L_law 594 ls (.int x :: st) σ Q = (if x = 0 then ax k_L_law 601 ls st σ Q else ax k_L_law 597 ls st σ Q) := (ru_if f_L_law_594 rfl).trans (ru_i_eq _ _ _ _)
set_option maxRecDepth 100000 in
theorem f_L_law_597 : am_cd k_L_law 597 = some ((some .boolean), .iconst 1, (0, 0, 0, 0, 0, .null)) := rfl
theorem s_L_law_597 {ls : am_L} {st : List Value} {σ : am_H} {Q : Option Value → am_H → Prop} : ax k_L_law 597 ls st σ Q = ax k_L_law 598 ls (.int 1 :: st) σ Q := ru_iconst f_L_law_597 (by decide +kernel) rfl
set_option maxRecDepth 100000 in
theorem f_L_law_598 : am_cd k_L_law 598 = some ((some .boolean), .goto 4, (602, 0, 0, 0, 0, .null)) := rfl
theorem s_L_law_598 {ls : am_L} {st : List Value} {σ : am_H} {Q : Option Value → am_H → Prop} : ax k_L_law 598 ls st σ Q = ax k_L_law 602 ls st σ Q := ru_goto f_L_law_598
set_option maxRecDepth 100000 in
theorem f_L_law_601 : am_cd k_L_law 601 = some ((some .boolean), .iconst 0, (0, 0, 0, 0, 0, .null)) := rfl
theorem s_L_law_601 {ls : am_L} {st : List Value} {σ : am_H} {Q : Option Value → am_H → Prop} : ax k_L_law 601 ls st σ Q = ax k_L_law 602 ls (.int 0 :: st) σ Q := ru_iconst f_L_law_601 (by decide +kernel) rfl
set_option maxRecDepth 100000 in
theorem f_L_law_602 : am_cd k_L_law 602 = some ((some .boolean), .aload_n 0, (0, 0, 0, 0, 0, .null)) := rfl
theorem s_L_law_602 {a1 a2 a3 : Option Value} {st : List Value} {σ : am_H} {Q : Option Value → am_H → Prop} {x : Nat} : ax k_L_law 602 [some (.ref x), a1, a2, a3] st σ Q = ax k_L_law 603 [some (.ref x), a1, a2, a3] (.ref x :: st) σ Q := ru_loc (q := (_, _)) f_L_law_602 rfl rfl rfl
set_option maxRecDepth 100000 in
theorem f_L_law_603 : am_cd k_L_law 603 = some ((some .boolean), .iload_n 3, (0, 0, 0, 0, 0, .null)) := rfl
theorem s_L_law_603 {a0 a1 a2 : Option Value} {st : List Value} {σ : am_H} {Q : Option Value → am_H → Prop} {x : Int32} : ax k_L_law 603 [a0, a1, a2, some (.int x)] st σ Q = ax k_L_law 604 [a0, a1, a2, some (.int x)] (.int x :: st) σ Q := ru_loc (q := (_, _)) f_L_law_603 rfl rfl rfl
set_option maxRecDepth 100000 in
theorem f_L_law_604 : am_cd k_L_law 604 = some ((some .boolean), .iconst 4, (0, 0, 0, 0, 0, .null)) := rfl
theorem s_L_law_604 {ls : am_L} {st : List Value} {σ : am_H} {Q : Option Value → am_H → Prop} : ax k_L_law 604 ls st σ Q = ax k_L_law 605 ls (.int 4 :: st) σ Q := ru_iconst f_L_law_604 (by decide +kernel) rfl
set_option maxRecDepth 100000 in
theorem f_L_law_605 : am_cd k_L_law 605 = some ((some .boolean), .iadd, (0, 0, 0, 0, 0, .null)) := rfl
theorem s_L_law_605 {ls : am_L} {st : List Value} {σ : am_H} {Q : Option Value → am_H → Prop} {x y : Int32} : ax k_L_law 605 ls (.int y :: .int x :: st) σ Q = ax k_L_law 606 ls (.int (x + y) :: st) σ Q := ru_pure f_L_law_605 rfl rfl
set_option maxRecDepth 100000 in
theorem f_L_law_606 : am_cd k_L_law 606 = some ((some .boolean), .iaload, (0, 0, 0, 0, 0, .null)) := rfl
theorem s_L_law_606 {ls : am_L} {st : List Value} {σ : am_H} {Q : Option Value → am_H → Prop} {a : Nat} {j : Int32} : ax k_L_law 606 ls (.int j :: .ref a :: st) σ Q = ax_f (am_j σ a) (fun q => q.1 = 0 ∧ am_ix j q.2.1 ∧ ax k_L_law 607 ls (.int (q.2.2 j.toNatClampNeg) :: st) σ Q) := rv_iald f_L_law_606 rfl
set_option maxRecDepth 100000 in
theorem f_L_law_607 : am_cd k_L_law 607 = some ((some .boolean), .invokevirtual 59, (131, 4, 1179, 0, 11, .null)) := rfl
theorem s_L_law_607 {ls : am_L} {st : List Value} {σ : am_H} {Q : Option Value → am_H → Prop} {p0 : Int32} {p1 : Int32} {p2 : Int32} {p3 : Int32} {b : Nat} (hi : am_is σ b 11) (h8 : am_s8 st) : ax k_L_law 607 ls (.int p3 :: .int p2 :: .int p1 :: .int p0 :: .ref b :: st) σ Q = ax k_M_found 0 [some (.ref b), some (.int p0), some (.int p1), some (.int p2), some (.int p3), none, none] [] σ (ax_k k_L_law 610 ls st Q) := ru_vir (M' := rk_M_found) f_L_law_607 rfl rfl rfl rfl hi h8 rfl rfl rfl rfl rfl
set_option maxRecDepth 100000 in
theorem f_L_law_610 : am_cd k_L_law 610 = some ((some .boolean), .if_icmp .eq 780, (1390, 0, 0, 0, 0, .null)) := rfl
theorem s_L_law_610 {ls : am_L} {st : List Value} {σ : am_H} {Q : Option Value → am_H → Prop} {x y : Int32} : ax k_L_law 610 ls (.int y :: .int x :: st) σ Q = (if x = y then ax k_L_law 1390 ls st σ Q else ax k_L_law 613 ls st σ Q) := (ru_icmp f_L_law_610 rfl).trans (ru_i_eq _ _ _ _)
set_option maxRecDepth 100000 in
theorem f_L_law_613 : am_cd k_L_law 613 = some ((some .boolean), .iconst 0, (0, 0, 0, 0, 0, .null)) := rfl
theorem s_L_law_613 {ls : am_L} {st : List Value} {σ : am_H} {Q : Option Value → am_H → Prop} : ax k_L_law 613 ls st σ Q = ax k_L_law 614 ls (.int 0 :: st) σ Q := ru_iconst f_L_law_613 (by decide +kernel) rfl
set_option maxRecDepth 100000 in
theorem f_L_law_614 : am_cd k_L_law 614 = some ((some .boolean), .ireturn, (0, 0, 0, 0, 0, .null)) := rfl
theorem s_L_law_614 {ls : am_L} {σ : am_H} {Q : Option Value → am_H → Prop} {v : Int32} : ax k_L_law 614 ls ([.int v]) σ Q = (am_nar .boolean v = true ∧ Q (some (.int v)) σ) := ru_iret f_L_law_614
set_option maxRecDepth 100000 in
theorem f_L_law_615 : am_cd k_L_law 615 = some ((some .boolean), .aload_n 1, (0, 0, 0, 0, 0, .null)) := rfl
theorem s_L_law_615 {a0 a2 a3 : Option Value} {st : List Value} {σ : am_H} {Q : Option Value → am_H → Prop} {x : Nat} : ax k_L_law 615 [a0, some (.ref x), a2, a3] st σ Q = ax k_L_law 616 [a0, some (.ref x), a2, a3] (.ref x :: st) σ Q := ru_loc (q := (_, _)) f_L_law_615 rfl rfl rfl
theorem s_L_law_615n {a0 a2 a3 : Option Value} {st : List Value} {σ : am_H} {Q : Option Value → am_H → Prop} : ax k_L_law 615 [a0, some .null, a2, a3] st σ Q = ax k_L_law 616 [a0, some .null, a2, a3] (.null :: st) σ Q := ru_loc (q := (_, _)) f_L_law_615 rfl rfl rfl
set_option maxRecDepth 100000 in
theorem f_L_law_616 : am_cd k_L_law 616 = some ((some .boolean), .aload_n 0, (0, 0, 0, 0, 0, .null)) := rfl
theorem s_L_law_616 {a1 a2 a3 : Option Value} {st : List Value} {σ : am_H} {Q : Option Value → am_H → Prop} {x : Nat} : ax k_L_law 616 [some (.ref x), a1, a2, a3] st σ Q = ax k_L_law 617 [some (.ref x), a1, a2, a3] (.ref x :: st) σ Q := ru_loc (q := (_, _)) f_L_law_616 rfl rfl rfl
set_option maxRecDepth 100000 in
theorem f_L_law_617 : am_cd k_L_law 617 = some ((some .boolean), .iload_n 3, (0, 0, 0, 0, 0, .null)) := rfl
theorem s_L_law_617 {a0 a1 a2 : Option Value} {st : List Value} {σ : am_H} {Q : Option Value → am_H → Prop} {x : Int32} : ax k_L_law 617 [a0, a1, a2, some (.int x)] st σ Q = ax k_L_law 618 [a0, a1, a2, some (.int x)] (.int x :: st) σ Q := ru_loc (q := (_, _)) f_L_law_617 rfl rfl rfl
set_option maxRecDepth 100000 in
theorem f_L_law_618 : am_cd k_L_law 618 = some ((some .boolean), .iconst 1, (0, 0, 0, 0, 0, .null)) := rfl
theorem s_L_law_618 {ls : am_L} {st : List Value} {σ : am_H} {Q : Option Value → am_H → Prop} : ax k_L_law 618 ls st σ Q = ax k_L_law 619 ls (.int 1 :: st) σ Q := ru_iconst f_L_law_618 (by decide +kernel) rfl
set_option maxRecDepth 100000 in
theorem f_L_law_619 : am_cd k_L_law 619 = some ((some .boolean), .iadd, (0, 0, 0, 0, 0, .null)) := rfl
theorem s_L_law_619 {ls : am_L} {st : List Value} {σ : am_H} {Q : Option Value → am_H → Prop} {x y : Int32} : ax k_L_law 619 ls (.int y :: .int x :: st) σ Q = ax k_L_law 620 ls (.int (x + y) :: st) σ Q := ru_pure f_L_law_619 rfl rfl
set_option maxRecDepth 100000 in
theorem f_L_law_620 : am_cd k_L_law 620 = some ((some .boolean), .iaload, (0, 0, 0, 0, 0, .null)) := rfl
theorem s_L_law_620 {ls : am_L} {st : List Value} {σ : am_H} {Q : Option Value → am_H → Prop} {a : Nat} {j : Int32} : ax k_L_law 620 ls (.int j :: .ref a :: st) σ Q = ax_f (am_j σ a) (fun q => q.1 = 0 ∧ am_ix j q.2.1 ∧ ax k_L_law 621 ls (.int (q.2.2 j.toNatClampNeg) :: st) σ Q) := rv_iald f_L_law_620 rfl
set_option maxRecDepth 100000 in
theorem f_L_law_621 : am_cd k_L_law 621 = some ((some .boolean), .aload_n 0, (0, 0, 0, 0, 0, .null)) := rfl
theorem s_L_law_621 {a1 a2 a3 : Option Value} {st : List Value} {σ : am_H} {Q : Option Value → am_H → Prop} {x : Nat} : ax k_L_law 621 [some (.ref x), a1, a2, a3] st σ Q = ax k_L_law 622 [some (.ref x), a1, a2, a3] (.ref x :: st) σ Q := ru_loc (q := (_, _)) f_L_law_621 rfl rfl rfl
set_option maxRecDepth 100000 in
theorem f_L_law_622 : am_cd k_L_law 622 = some ((some .boolean), .iload_n 3, (0, 0, 0, 0, 0, .null)) := rfl
theorem s_L_law_622 {a0 a1 a2 : Option Value} {st : List Value} {σ : am_H} {Q : Option Value → am_H → Prop} {x : Int32} : ax k_L_law 622 [a0, a1, a2, some (.int x)] st σ Q = ax k_L_law 623 [a0, a1, a2, some (.int x)] (.int x :: st) σ Q := ru_loc (q := (_, _)) f_L_law_622 rfl rfl rfl
set_option maxRecDepth 100000 in
theorem f_L_law_623 : am_cd k_L_law 623 = some ((some .boolean), .iconst 2, (0, 0, 0, 0, 0, .null)) := rfl
theorem s_L_law_623 {ls : am_L} {st : List Value} {σ : am_H} {Q : Option Value → am_H → Prop} : ax k_L_law 623 ls st σ Q = ax k_L_law 624 ls (.int 2 :: st) σ Q := ru_iconst f_L_law_623 (by decide +kernel) rfl
set_option maxRecDepth 100000 in
theorem f_L_law_624 : am_cd k_L_law 624 = some ((some .boolean), .iadd, (0, 0, 0, 0, 0, .null)) := rfl
theorem s_L_law_624 {ls : am_L} {st : List Value} {σ : am_H} {Q : Option Value → am_H → Prop} {x y : Int32} : ax k_L_law 624 ls (.int y :: .int x :: st) σ Q = ax k_L_law 625 ls (.int (x + y) :: st) σ Q := ru_pure f_L_law_624 rfl rfl
set_option maxRecDepth 100000 in
theorem f_L_law_625 : am_cd k_L_law 625 = some ((some .boolean), .iaload, (0, 0, 0, 0, 0, .null)) := rfl
theorem s_L_law_625 {ls : am_L} {st : List Value} {σ : am_H} {Q : Option Value → am_H → Prop} {a : Nat} {j : Int32} : ax k_L_law 625 ls (.int j :: .ref a :: st) σ Q = ax_f (am_j σ a) (fun q => q.1 = 0 ∧ am_ix j q.2.1 ∧ ax k_L_law 626 ls (.int (q.2.2 j.toNatClampNeg) :: st) σ Q) := rv_iald f_L_law_625 rfl
set_option maxRecDepth 100000 in
theorem f_L_law_626 : am_cd k_L_law 626 = some ((some .boolean), .invokevirtual 60, (79, 2, 472, 0, 10, .null)) := rfl
theorem s_L_law_626 {ls : am_L} {st : List Value} {σ : am_H} {Q : Option Value → am_H → Prop} {p0 : Int32} {p1 : Int32} {b : Nat} (hi : am_is σ b 10) (h8 : am_s8 st) : ax k_L_law 626 ls (.int p1 :: .int p0 :: .ref b :: st) σ Q = ax k_A_far 0 [some (.ref b), some (.int p0), some (.int p1)] [] σ (ax_k k_L_law 629 ls st Q) := ru_vir (M' := rk_A_far) f_L_law_626 rfl rfl rfl rfl hi h8 rfl rfl rfl rfl rfl
set_option maxRecDepth 100000 in
theorem f_L_law_629 : am_cd k_L_law 629 = some ((some .boolean), .aload_n 2, (0, 0, 0, 0, 0, .null)) := rfl
theorem s_L_law_629 {a0 a1 a3 : Option Value} {st : List Value} {σ : am_H} {Q : Option Value → am_H → Prop} {x : Nat} : ax k_L_law 629 [a0, a1, some (.ref x), a3] st σ Q = ax k_L_law 630 [a0, a1, some (.ref x), a3] (.ref x :: st) σ Q := ru_loc (q := (_, _)) f_L_law_629 rfl rfl rfl
theorem s_L_law_629n {a0 a1 a3 : Option Value} {st : List Value} {σ : am_H} {Q : Option Value → am_H → Prop} : ax k_L_law 629 [a0, a1, some .null, a3] st σ Q = ax k_L_law 630 [a0, a1, some .null, a3] (.null :: st) σ Q := ru_loc (q := (_, _)) f_L_law_629 rfl rfl rfl
set_option maxRecDepth 100000 in
theorem f_L_law_630 : am_cd k_L_law 630 = some ((some .boolean), .aload_n 0, (0, 0, 0, 0, 0, .null)) := rfl
theorem s_L_law_630 {a1 a2 a3 : Option Value} {st : List Value} {σ : am_H} {Q : Option Value → am_H → Prop} {x : Nat} : ax k_L_law 630 [some (.ref x), a1, a2, a3] st σ Q = ax k_L_law 631 [some (.ref x), a1, a2, a3] (.ref x :: st) σ Q := ru_loc (q := (_, _)) f_L_law_630 rfl rfl rfl
set_option maxRecDepth 100000 in
theorem f_L_law_631 : am_cd k_L_law 631 = some ((some .boolean), .iload_n 3, (0, 0, 0, 0, 0, .null)) := rfl
theorem s_L_law_631 {a0 a1 a2 : Option Value} {st : List Value} {σ : am_H} {Q : Option Value → am_H → Prop} {x : Int32} : ax k_L_law 631 [a0, a1, a2, some (.int x)] st σ Q = ax k_L_law 632 [a0, a1, a2, some (.int x)] (.int x :: st) σ Q := ru_loc (q := (_, _)) f_L_law_631 rfl rfl rfl
set_option maxRecDepth 100000 in
theorem f_L_law_632 : am_cd k_L_law 632 = some ((some .boolean), .iconst 1, (0, 0, 0, 0, 0, .null)) := rfl
theorem s_L_law_632 {ls : am_L} {st : List Value} {σ : am_H} {Q : Option Value → am_H → Prop} : ax k_L_law 632 ls st σ Q = ax k_L_law 633 ls (.int 1 :: st) σ Q := ru_iconst f_L_law_632 (by decide +kernel) rfl
set_option maxRecDepth 100000 in
theorem f_L_law_633 : am_cd k_L_law 633 = some ((some .boolean), .iadd, (0, 0, 0, 0, 0, .null)) := rfl
theorem s_L_law_633 {ls : am_L} {st : List Value} {σ : am_H} {Q : Option Value → am_H → Prop} {x y : Int32} : ax k_L_law 633 ls (.int y :: .int x :: st) σ Q = ax k_L_law 634 ls (.int (x + y) :: st) σ Q := ru_pure f_L_law_633 rfl rfl
set_option maxRecDepth 100000 in
theorem f_L_law_634 : am_cd k_L_law 634 = some ((some .boolean), .iaload, (0, 0, 0, 0, 0, .null)) := rfl
theorem s_L_law_634 {ls : am_L} {st : List Value} {σ : am_H} {Q : Option Value → am_H → Prop} {a : Nat} {j : Int32} : ax k_L_law 634 ls (.int j :: .ref a :: st) σ Q = ax_f (am_j σ a) (fun q => q.1 = 0 ∧ am_ix j q.2.1 ∧ ax k_L_law 635 ls (.int (q.2.2 j.toNatClampNeg) :: st) σ Q) := rv_iald f_L_law_634 rfl
set_option maxRecDepth 100000 in
theorem f_L_law_635 : am_cd k_L_law 635 = some ((some .boolean), .aload_n 0, (0, 0, 0, 0, 0, .null)) := rfl
theorem s_L_law_635 {a1 a2 a3 : Option Value} {st : List Value} {σ : am_H} {Q : Option Value → am_H → Prop} {x : Nat} : ax k_L_law 635 [some (.ref x), a1, a2, a3] st σ Q = ax k_L_law 636 [some (.ref x), a1, a2, a3] (.ref x :: st) σ Q := ru_loc (q := (_, _)) f_L_law_635 rfl rfl rfl
set_option maxRecDepth 100000 in
theorem f_L_law_636 : am_cd k_L_law 636 = some ((some .boolean), .iload_n 3, (0, 0, 0, 0, 0, .null)) := rfl
theorem s_L_law_636 {a0 a1 a2 : Option Value} {st : List Value} {σ : am_H} {Q : Option Value → am_H → Prop} {x : Int32} : ax k_L_law 636 [a0, a1, a2, some (.int x)] st σ Q = ax k_L_law 637 [a0, a1, a2, some (.int x)] (.int x :: st) σ Q := ru_loc (q := (_, _)) f_L_law_636 rfl rfl rfl
set_option maxRecDepth 100000 in
theorem f_L_law_637 : am_cd k_L_law 637 = some ((some .boolean), .iconst 2, (0, 0, 0, 0, 0, .null)) := rfl
theorem s_L_law_637 {ls : am_L} {st : List Value} {σ : am_H} {Q : Option Value → am_H → Prop} : ax k_L_law 637 ls st σ Q = ax k_L_law 638 ls (.int 2 :: st) σ Q := ru_iconst f_L_law_637 (by decide +kernel) rfl
set_option maxRecDepth 100000 in
theorem f_L_law_638 : am_cd k_L_law 638 = some ((some .boolean), .iadd, (0, 0, 0, 0, 0, .null)) := rfl
theorem s_L_law_638 {ls : am_L} {st : List Value} {σ : am_H} {Q : Option Value → am_H → Prop} {x y : Int32} : ax k_L_law 638 ls (.int y :: .int x :: st) σ Q = ax k_L_law 639 ls (.int (x + y) :: st) σ Q := ru_pure f_L_law_638 rfl rfl
set_option maxRecDepth 100000 in
theorem f_L_law_639 : am_cd k_L_law 639 = some ((some .boolean), .iaload, (0, 0, 0, 0, 0, .null)) := rfl
theorem s_L_law_639 {ls : am_L} {st : List Value} {σ : am_H} {Q : Option Value → am_H → Prop} {a : Nat} {j : Int32} : ax k_L_law 639 ls (.int j :: .ref a :: st) σ Q = ax_f (am_j σ a) (fun q => q.1 = 0 ∧ am_ix j q.2.1 ∧ ax k_L_law 640 ls (.int (q.2.2 j.toNatClampNeg) :: st) σ Q) := rv_iald f_L_law_639 rfl
set_option maxRecDepth 100000 in
theorem f_L_law_640 : am_cd k_L_law 640 = some ((some .boolean), .invokevirtual 63, (133, 2, 1183, 0, 11, .null)) := rfl
theorem s_L_law_640 {ls : am_L} {st : List Value} {σ : am_H} {Q : Option Value → am_H → Prop} {p0 : Int32} {p1 : Int32} {b : Nat} (hi : am_is σ b 11) (h8 : am_s8 st) : ax k_L_law 640 ls (.int p1 :: .int p0 :: .ref b :: st) σ Q = ax k_M_far 0 [some (.ref b), some (.int p0), some (.int p1)] [] σ (ax_k k_L_law 643 ls st Q) := ru_vir (M' := rk_M_far) f_L_law_640 rfl rfl rfl rfl hi h8 rfl rfl rfl rfl rfl
set_option maxRecDepth 100000 in
theorem f_L_law_643 : am_cd k_L_law 643 = some ((some .boolean), .if_icmp .eq 747, (1390, 0, 0, 0, 0, .null)) := rfl
theorem s_L_law_643 {ls : am_L} {st : List Value} {σ : am_H} {Q : Option Value → am_H → Prop} {x y : Int32} : ax k_L_law 643 ls (.int y :: .int x :: st) σ Q = (if x = y then ax k_L_law 1390 ls st σ Q else ax k_L_law 646 ls st σ Q) := (ru_icmp f_L_law_643 rfl).trans (ru_i_eq _ _ _ _)
set_option maxRecDepth 100000 in
theorem f_L_law_646 : am_cd k_L_law 646 = some ((some .boolean), .iconst 0, (0, 0, 0, 0, 0, .null)) := rfl
theorem s_L_law_646 {ls : am_L} {st : List Value} {σ : am_H} {Q : Option Value → am_H → Prop} : ax k_L_law 646 ls st σ Q = ax k_L_law 647 ls (.int 0 :: st) σ Q := ru_iconst f_L_law_646 (by decide +kernel) rfl
set_option maxRecDepth 100000 in
theorem f_L_law_647 : am_cd k_L_law 647 = some ((some .boolean), .ireturn, (0, 0, 0, 0, 0, .null)) := rfl
theorem s_L_law_647 {ls : am_L} {σ : am_H} {Q : Option Value → am_H → Prop} {v : Int32} : ax k_L_law 647 ls ([.int v]) σ Q = (am_nar .boolean v = true ∧ Q (some (.int v)) σ) := ru_iret f_L_law_647
set_option maxRecDepth 100000 in
theorem f_L_law_648 : am_cd k_L_law 648 = some ((some .boolean), .aload_n 1, (0, 0, 0, 0, 0, .null)) := rfl
theorem s_L_law_648 {a0 a2 a3 : Option Value} {st : List Value} {σ : am_H} {Q : Option Value → am_H → Prop} {x : Nat} : ax k_L_law 648 [a0, some (.ref x), a2, a3] st σ Q = ax k_L_law 649 [a0, some (.ref x), a2, a3] (.ref x :: st) σ Q := ru_loc (q := (_, _)) f_L_law_648 rfl rfl rfl
theorem s_L_law_648n {a0 a2 a3 : Option Value} {st : List Value} {σ : am_H} {Q : Option Value → am_H → Prop} : ax k_L_law 648 [a0, some .null, a2, a3] st σ Q = ax k_L_law 649 [a0, some .null, a2, a3] (.null :: st) σ Q := ru_loc (q := (_, _)) f_L_law_648 rfl rfl rfl
set_option maxRecDepth 100000 in
theorem f_L_law_649 : am_cd k_L_law 649 = some ((some .boolean), .aload_n 0, (0, 0, 0, 0, 0, .null)) := rfl
theorem s_L_law_649 {a1 a2 a3 : Option Value} {st : List Value} {σ : am_H} {Q : Option Value → am_H → Prop} {x : Nat} : ax k_L_law 649 [some (.ref x), a1, a2, a3] st σ Q = ax k_L_law 650 [some (.ref x), a1, a2, a3] (.ref x :: st) σ Q := ru_loc (q := (_, _)) f_L_law_649 rfl rfl rfl
set_option maxRecDepth 100000 in
theorem f_L_law_650 : am_cd k_L_law 650 = some ((some .boolean), .iload_n 3, (0, 0, 0, 0, 0, .null)) := rfl
theorem s_L_law_650 {a0 a1 a2 : Option Value} {st : List Value} {σ : am_H} {Q : Option Value → am_H → Prop} {x : Int32} : ax k_L_law 650 [a0, a1, a2, some (.int x)] st σ Q = ax k_L_law 651 [a0, a1, a2, some (.int x)] (.int x :: st) σ Q := ru_loc (q := (_, _)) f_L_law_650 rfl rfl rfl
set_option maxRecDepth 100000 in
theorem f_L_law_651 : am_cd k_L_law 651 = some ((some .boolean), .iconst 1, (0, 0, 0, 0, 0, .null)) := rfl
theorem s_L_law_651 {ls : am_L} {st : List Value} {σ : am_H} {Q : Option Value → am_H → Prop} : ax k_L_law 651 ls st σ Q = ax k_L_law 652 ls (.int 1 :: st) σ Q := ru_iconst f_L_law_651 (by decide +kernel) rfl
set_option maxRecDepth 100000 in
theorem f_L_law_652 : am_cd k_L_law 652 = some ((some .boolean), .iadd, (0, 0, 0, 0, 0, .null)) := rfl
theorem s_L_law_652 {ls : am_L} {st : List Value} {σ : am_H} {Q : Option Value → am_H → Prop} {x y : Int32} : ax k_L_law 652 ls (.int y :: .int x :: st) σ Q = ax k_L_law 653 ls (.int (x + y) :: st) σ Q := ru_pure f_L_law_652 rfl rfl
set_option maxRecDepth 100000 in
theorem f_L_law_653 : am_cd k_L_law 653 = some ((some .boolean), .iaload, (0, 0, 0, 0, 0, .null)) := rfl
theorem s_L_law_653 {ls : am_L} {st : List Value} {σ : am_H} {Q : Option Value → am_H → Prop} {a : Nat} {j : Int32} : ax k_L_law 653 ls (.int j :: .ref a :: st) σ Q = ax_f (am_j σ a) (fun q => q.1 = 0 ∧ am_ix j q.2.1 ∧ ax k_L_law 654 ls (.int (q.2.2 j.toNatClampNeg) :: st) σ Q) := rv_iald f_L_law_653 rfl
set_option maxRecDepth 100000 in
theorem f_L_law_654 : am_cd k_L_law 654 = some ((some .boolean), .invokevirtual 64, (80, 1, 481, 0, 10, .null)) := rfl
theorem s_L_law_654 {ls : am_L} {st : List Value} {σ : am_H} {Q : Option Value → am_H → Prop} {p0 : Int32} {b : Nat} (hi : am_is σ b 10) (h8 : am_s8 st) : ax k_L_law 654 ls (.int p0 :: .ref b :: st) σ Q = ax k_A_limit 0 [some (.ref b), some (.int p0)] [] σ (ax_k k_L_law 657 ls st Q) := ru_vir (M' := rk_A_limit) f_L_law_654 rfl rfl rfl rfl hi h8 rfl rfl rfl rfl rfl
set_option maxRecDepth 100000 in
theorem f_L_law_657 : am_cd k_L_law 657 = some ((some .boolean), .aload_n 2, (0, 0, 0, 0, 0, .null)) := rfl
theorem s_L_law_657 {a0 a1 a3 : Option Value} {st : List Value} {σ : am_H} {Q : Option Value → am_H → Prop} {x : Nat} : ax k_L_law 657 [a0, a1, some (.ref x), a3] st σ Q = ax k_L_law 658 [a0, a1, some (.ref x), a3] (.ref x :: st) σ Q := ru_loc (q := (_, _)) f_L_law_657 rfl rfl rfl
theorem s_L_law_657n {a0 a1 a3 : Option Value} {st : List Value} {σ : am_H} {Q : Option Value → am_H → Prop} : ax k_L_law 657 [a0, a1, some .null, a3] st σ Q = ax k_L_law 658 [a0, a1, some .null, a3] (.null :: st) σ Q := ru_loc (q := (_, _)) f_L_law_657 rfl rfl rfl
set_option maxRecDepth 100000 in
theorem f_L_law_658 : am_cd k_L_law 658 = some ((some .boolean), .aload_n 0, (0, 0, 0, 0, 0, .null)) := rfl
theorem s_L_law_658 {a1 a2 a3 : Option Value} {st : List Value} {σ : am_H} {Q : Option Value → am_H → Prop} {x : Nat} : ax k_L_law 658 [some (.ref x), a1, a2, a3] st σ Q = ax k_L_law 659 [some (.ref x), a1, a2, a3] (.ref x :: st) σ Q := ru_loc (q := (_, _)) f_L_law_658 rfl rfl rfl
set_option maxRecDepth 100000 in
theorem f_L_law_659 : am_cd k_L_law 659 = some ((some .boolean), .iload_n 3, (0, 0, 0, 0, 0, .null)) := rfl
theorem s_L_law_659 {a0 a1 a2 : Option Value} {st : List Value} {σ : am_H} {Q : Option Value → am_H → Prop} {x : Int32} : ax k_L_law 659 [a0, a1, a2, some (.int x)] st σ Q = ax k_L_law 660 [a0, a1, a2, some (.int x)] (.int x :: st) σ Q := ru_loc (q := (_, _)) f_L_law_659 rfl rfl rfl
set_option maxRecDepth 100000 in
theorem f_L_law_660 : am_cd k_L_law 660 = some ((some .boolean), .iconst 1, (0, 0, 0, 0, 0, .null)) := rfl
theorem s_L_law_660 {ls : am_L} {st : List Value} {σ : am_H} {Q : Option Value → am_H → Prop} : ax k_L_law 660 ls st σ Q = ax k_L_law 661 ls (.int 1 :: st) σ Q := ru_iconst f_L_law_660 (by decide +kernel) rfl
set_option maxRecDepth 100000 in
theorem f_L_law_661 : am_cd k_L_law 661 = some ((some .boolean), .iadd, (0, 0, 0, 0, 0, .null)) := rfl
theorem s_L_law_661 {ls : am_L} {st : List Value} {σ : am_H} {Q : Option Value → am_H → Prop} {x y : Int32} : ax k_L_law 661 ls (.int y :: .int x :: st) σ Q = ax k_L_law 662 ls (.int (x + y) :: st) σ Q := ru_pure f_L_law_661 rfl rfl
set_option maxRecDepth 100000 in
theorem f_L_law_662 : am_cd k_L_law 662 = some ((some .boolean), .iaload, (0, 0, 0, 0, 0, .null)) := rfl
theorem s_L_law_662 {ls : am_L} {st : List Value} {σ : am_H} {Q : Option Value → am_H → Prop} {a : Nat} {j : Int32} : ax k_L_law 662 ls (.int j :: .ref a :: st) σ Q = ax_f (am_j σ a) (fun q => q.1 = 0 ∧ am_ix j q.2.1 ∧ ax k_L_law 663 ls (.int (q.2.2 j.toNatClampNeg) :: st) σ Q) := rv_iald f_L_law_662 rfl
set_option maxRecDepth 100000 in
theorem f_L_law_663 : am_cd k_L_law 663 = some ((some .boolean), .invokevirtual 67, (134, 1, 1191, 0, 11, .null)) := rfl
theorem s_L_law_663 {ls : am_L} {st : List Value} {σ : am_H} {Q : Option Value → am_H → Prop} {p0 : Int32} {b : Nat} (hi : am_is σ b 11) (h8 : am_s8 st) : ax k_L_law 663 ls (.int p0 :: .ref b :: st) σ Q = ax k_M_limit 0 [some (.ref b), some (.int p0)] [] σ (ax_k k_L_law 666 ls st Q) := ru_vir (M' := rk_M_limit) f_L_law_663 rfl rfl rfl rfl hi h8 rfl rfl rfl rfl rfl
set_option maxRecDepth 100000 in
theorem f_L_law_666 : am_cd k_L_law 666 = some ((some .boolean), .if_icmp .eq 724, (1390, 0, 0, 0, 0, .null)) := rfl
theorem s_L_law_666 {ls : am_L} {st : List Value} {σ : am_H} {Q : Option Value → am_H → Prop} {x y : Int32} : ax k_L_law 666 ls (.int y :: .int x :: st) σ Q = (if x = y then ax k_L_law 1390 ls st σ Q else ax k_L_law 669 ls st σ Q) := (ru_icmp f_L_law_666 rfl).trans (ru_i_eq _ _ _ _)
set_option maxRecDepth 100000 in
theorem f_L_law_669 : am_cd k_L_law 669 = some ((some .boolean), .iconst 0, (0, 0, 0, 0, 0, .null)) := rfl
theorem s_L_law_669 {ls : am_L} {st : List Value} {σ : am_H} {Q : Option Value → am_H → Prop} : ax k_L_law 669 ls st σ Q = ax k_L_law 670 ls (.int 0 :: st) σ Q := ru_iconst f_L_law_669 (by decide +kernel) rfl
set_option maxRecDepth 100000 in
theorem f_L_law_670 : am_cd k_L_law 670 = some ((some .boolean), .ireturn, (0, 0, 0, 0, 0, .null)) := rfl
theorem s_L_law_670 {ls : am_L} {σ : am_H} {Q : Option Value → am_H → Prop} {v : Int32} : ax k_L_law 670 ls ([.int v]) σ Q = (am_nar .boolean v = true ∧ Q (some (.int v)) σ) := ru_iret f_L_law_670
set_option maxRecDepth 100000 in
theorem f_L_law_671 : am_cd k_L_law 671 = some ((some .boolean), .aload_n 1, (0, 0, 0, 0, 0, .null)) := rfl
theorem s_L_law_671 {a0 a2 a3 : Option Value} {st : List Value} {σ : am_H} {Q : Option Value → am_H → Prop} {x : Nat} : ax k_L_law 671 [a0, some (.ref x), a2, a3] st σ Q = ax k_L_law 672 [a0, some (.ref x), a2, a3] (.ref x :: st) σ Q := ru_loc (q := (_, _)) f_L_law_671 rfl rfl rfl
theorem s_L_law_671n {a0 a2 a3 : Option Value} {st : List Value} {σ : am_H} {Q : Option Value → am_H → Prop} : ax k_L_law 671 [a0, some .null, a2, a3] st σ Q = ax k_L_law 672 [a0, some .null, a2, a3] (.null :: st) σ Q := ru_loc (q := (_, _)) f_L_law_671 rfl rfl rfl
set_option maxRecDepth 100000 in
theorem f_L_law_672 : am_cd k_L_law 672 = some ((some .boolean), .aload_n 0, (0, 0, 0, 0, 0, .null)) := rfl
theorem s_L_law_672 {a1 a2 a3 : Option Value} {st : List Value} {σ : am_H} {Q : Option Value → am_H → Prop} {x : Nat} : ax k_L_law 672 [some (.ref x), a1, a2, a3] st σ Q = ax k_L_law 673 [some (.ref x), a1, a2, a3] (.ref x :: st) σ Q := ru_loc (q := (_, _)) f_L_law_672 rfl rfl rfl
set_option maxRecDepth 100000 in
theorem f_L_law_673 : am_cd k_L_law 673 = some ((some .boolean), .iload_n 3, (0, 0, 0, 0, 0, .null)) := rfl
theorem s_L_law_673 {a0 a1 a2 : Option Value} {st : List Value} {σ : am_H} {Q : Option Value → am_H → Prop} {x : Int32} : ax k_L_law 673 [a0, a1, a2, some (.int x)] st σ Q = ax k_L_law 674 [a0, a1, a2, some (.int x)] (.int x :: st) σ Q := ru_loc (q := (_, _)) f_L_law_673 rfl rfl rfl
set_option maxRecDepth 100000 in
theorem f_L_law_674 : am_cd k_L_law 674 = some ((some .boolean), .iconst 1, (0, 0, 0, 0, 0, .null)) := rfl
theorem s_L_law_674 {ls : am_L} {st : List Value} {σ : am_H} {Q : Option Value → am_H → Prop} : ax k_L_law 674 ls st σ Q = ax k_L_law 675 ls (.int 1 :: st) σ Q := ru_iconst f_L_law_674 (by decide +kernel) rfl
set_option maxRecDepth 100000 in
theorem f_L_law_675 : am_cd k_L_law 675 = some ((some .boolean), .iadd, (0, 0, 0, 0, 0, .null)) := rfl
theorem s_L_law_675 {ls : am_L} {st : List Value} {σ : am_H} {Q : Option Value → am_H → Prop} {x y : Int32} : ax k_L_law 675 ls (.int y :: .int x :: st) σ Q = ax k_L_law 676 ls (.int (x + y) :: st) σ Q := ru_pure f_L_law_675 rfl rfl
set_option maxRecDepth 100000 in
theorem f_L_law_676 : am_cd k_L_law 676 = some ((some .boolean), .iaload, (0, 0, 0, 0, 0, .null)) := rfl
theorem s_L_law_676 {ls : am_L} {st : List Value} {σ : am_H} {Q : Option Value → am_H → Prop} {a : Nat} {j : Int32} : ax k_L_law 676 ls (.int j :: .ref a :: st) σ Q = ax_f (am_j σ a) (fun q => q.1 = 0 ∧ am_ix j q.2.1 ∧ ax k_L_law 677 ls (.int (q.2.2 j.toNatClampNeg) :: st) σ Q) := rv_iald f_L_law_676 rfl
set_option maxRecDepth 100000 in
theorem f_L_law_677 : am_cd k_L_law 677 = some ((some .boolean), .aload_n 0, (0, 0, 0, 0, 0, .null)) := rfl
theorem s_L_law_677 {a1 a2 a3 : Option Value} {st : List Value} {σ : am_H} {Q : Option Value → am_H → Prop} {x : Nat} : ax k_L_law 677 [some (.ref x), a1, a2, a3] st σ Q = ax k_L_law 678 [some (.ref x), a1, a2, a3] (.ref x :: st) σ Q := ru_loc (q := (_, _)) f_L_law_677 rfl rfl rfl
set_option maxRecDepth 100000 in
theorem f_L_law_678 : am_cd k_L_law 678 = some ((some .boolean), .iload_n 3, (0, 0, 0, 0, 0, .null)) := rfl
theorem s_L_law_678 {a0 a1 a2 : Option Value} {st : List Value} {σ : am_H} {Q : Option Value → am_H → Prop} {x : Int32} : ax k_L_law 678 [a0, a1, a2, some (.int x)] st σ Q = ax k_L_law 679 [a0, a1, a2, some (.int x)] (.int x :: st) σ Q := ru_loc (q := (_, _)) f_L_law_678 rfl rfl rfl
set_option maxRecDepth 100000 in
theorem f_L_law_679 : am_cd k_L_law 679 = some ((some .boolean), .iconst 2, (0, 0, 0, 0, 0, .null)) := rfl
theorem s_L_law_679 {ls : am_L} {st : List Value} {σ : am_H} {Q : Option Value → am_H → Prop} : ax k_L_law 679 ls st σ Q = ax k_L_law 680 ls (.int 2 :: st) σ Q := ru_iconst f_L_law_679 (by decide +kernel) rfl
set_option maxRecDepth 100000 in
theorem f_L_law_680 : am_cd k_L_law 680 = some ((some .boolean), .iadd, (0, 0, 0, 0, 0, .null)) := rfl
theorem s_L_law_680 {ls : am_L} {st : List Value} {σ : am_H} {Q : Option Value → am_H → Prop} {x y : Int32} : ax k_L_law 680 ls (.int y :: .int x :: st) σ Q = ax k_L_law 681 ls (.int (x + y) :: st) σ Q := ru_pure f_L_law_680 rfl rfl
set_option maxRecDepth 100000 in
theorem f_L_law_681 : am_cd k_L_law 681 = some ((some .boolean), .iaload, (0, 0, 0, 0, 0, .null)) := rfl
theorem s_L_law_681 {ls : am_L} {st : List Value} {σ : am_H} {Q : Option Value → am_H → Prop} {a : Nat} {j : Int32} : ax k_L_law 681 ls (.int j :: .ref a :: st) σ Q = ax_f (am_j σ a) (fun q => q.1 = 0 ∧ am_ix j q.2.1 ∧ ax k_L_law 682 ls (.int (q.2.2 j.toNatClampNeg) :: st) σ Q) := rv_iald f_L_law_681 rfl
set_option maxRecDepth 100000 in
theorem f_L_law_682 : am_cd k_L_law 682 = some ((some .boolean), .invokevirtual 68, (81, 2, 485, 0, 10, .null)) := rfl
theorem s_L_law_682 {ls : am_L} {st : List Value} {σ : am_H} {Q : Option Value → am_H → Prop} {p0 : Int32} {p1 : Int32} {b : Nat} (hi : am_is σ b 10) (h8 : am_s8 st) : ax k_L_law 682 ls (.int p1 :: .int p0 :: .ref b :: st) σ Q = ax k_A_set 0 [some (.ref b), some (.int p0), some (.int p1)] [] σ (ax_k k_L_law 685 ls st Q) := ru_vir (M' := rk_A_set) f_L_law_682 rfl rfl rfl rfl hi h8 rfl rfl rfl rfl rfl
set_option maxRecDepth 100000 in
theorem f_L_law_685 : am_cd k_L_law 685 = some ((some .boolean), .aload_n 2, (0, 0, 0, 0, 0, .null)) := rfl
theorem s_L_law_685 {a0 a1 a3 : Option Value} {st : List Value} {σ : am_H} {Q : Option Value → am_H → Prop} {x : Nat} : ax k_L_law 685 [a0, a1, some (.ref x), a3] st σ Q = ax k_L_law 686 [a0, a1, some (.ref x), a3] (.ref x :: st) σ Q := ru_loc (q := (_, _)) f_L_law_685 rfl rfl rfl
theorem s_L_law_685n {a0 a1 a3 : Option Value} {st : List Value} {σ : am_H} {Q : Option Value → am_H → Prop} : ax k_L_law 685 [a0, a1, some .null, a3] st σ Q = ax k_L_law 686 [a0, a1, some .null, a3] (.null :: st) σ Q := ru_loc (q := (_, _)) f_L_law_685 rfl rfl rfl
set_option maxRecDepth 100000 in
theorem f_L_law_686 : am_cd k_L_law 686 = some ((some .boolean), .aload_n 0, (0, 0, 0, 0, 0, .null)) := rfl
theorem s_L_law_686 {a1 a2 a3 : Option Value} {st : List Value} {σ : am_H} {Q : Option Value → am_H → Prop} {x : Nat} : ax k_L_law 686 [some (.ref x), a1, a2, a3] st σ Q = ax k_L_law 687 [some (.ref x), a1, a2, a3] (.ref x :: st) σ Q := ru_loc (q := (_, _)) f_L_law_686 rfl rfl rfl
set_option maxRecDepth 100000 in
theorem f_L_law_687 : am_cd k_L_law 687 = some ((some .boolean), .iload_n 3, (0, 0, 0, 0, 0, .null)) := rfl
theorem s_L_law_687 {a0 a1 a2 : Option Value} {st : List Value} {σ : am_H} {Q : Option Value → am_H → Prop} {x : Int32} : ax k_L_law 687 [a0, a1, a2, some (.int x)] st σ Q = ax k_L_law 688 [a0, a1, a2, some (.int x)] (.int x :: st) σ Q := ru_loc (q := (_, _)) f_L_law_687 rfl rfl rfl
set_option maxRecDepth 100000 in
theorem f_L_law_688 : am_cd k_L_law 688 = some ((some .boolean), .iconst 1, (0, 0, 0, 0, 0, .null)) := rfl
theorem s_L_law_688 {ls : am_L} {st : List Value} {σ : am_H} {Q : Option Value → am_H → Prop} : ax k_L_law 688 ls st σ Q = ax k_L_law 689 ls (.int 1 :: st) σ Q := ru_iconst f_L_law_688 (by decide +kernel) rfl
set_option maxRecDepth 100000 in
theorem f_L_law_689 : am_cd k_L_law 689 = some ((some .boolean), .iadd, (0, 0, 0, 0, 0, .null)) := rfl
theorem s_L_law_689 {ls : am_L} {st : List Value} {σ : am_H} {Q : Option Value → am_H → Prop} {x y : Int32} : ax k_L_law 689 ls (.int y :: .int x :: st) σ Q = ax k_L_law 690 ls (.int (x + y) :: st) σ Q := ru_pure f_L_law_689 rfl rfl
set_option maxRecDepth 100000 in
theorem f_L_law_690 : am_cd k_L_law 690 = some ((some .boolean), .iaload, (0, 0, 0, 0, 0, .null)) := rfl
theorem s_L_law_690 {ls : am_L} {st : List Value} {σ : am_H} {Q : Option Value → am_H → Prop} {a : Nat} {j : Int32} : ax k_L_law 690 ls (.int j :: .ref a :: st) σ Q = ax_f (am_j σ a) (fun q => q.1 = 0 ∧ am_ix j q.2.1 ∧ ax k_L_law 691 ls (.int (q.2.2 j.toNatClampNeg) :: st) σ Q) := rv_iald f_L_law_690 rfl
set_option maxRecDepth 100000 in
theorem f_L_law_691 : am_cd k_L_law 691 = some ((some .boolean), .aload_n 0, (0, 0, 0, 0, 0, .null)) := rfl
theorem s_L_law_691 {a1 a2 a3 : Option Value} {st : List Value} {σ : am_H} {Q : Option Value → am_H → Prop} {x : Nat} : ax k_L_law 691 [some (.ref x), a1, a2, a3] st σ Q = ax k_L_law 692 [some (.ref x), a1, a2, a3] (.ref x :: st) σ Q := ru_loc (q := (_, _)) f_L_law_691 rfl rfl rfl
set_option maxRecDepth 100000 in
theorem f_L_law_692 : am_cd k_L_law 692 = some ((some .boolean), .iload_n 3, (0, 0, 0, 0, 0, .null)) := rfl
theorem s_L_law_692 {a0 a1 a2 : Option Value} {st : List Value} {σ : am_H} {Q : Option Value → am_H → Prop} {x : Int32} : ax k_L_law 692 [a0, a1, a2, some (.int x)] st σ Q = ax k_L_law 693 [a0, a1, a2, some (.int x)] (.int x :: st) σ Q := ru_loc (q := (_, _)) f_L_law_692 rfl rfl rfl
set_option maxRecDepth 100000 in
theorem f_L_law_693 : am_cd k_L_law 693 = some ((some .boolean), .iconst 2, (0, 0, 0, 0, 0, .null)) := rfl
theorem s_L_law_693 {ls : am_L} {st : List Value} {σ : am_H} {Q : Option Value → am_H → Prop} : ax k_L_law 693 ls st σ Q = ax k_L_law 694 ls (.int 2 :: st) σ Q := ru_iconst f_L_law_693 (by decide +kernel) rfl
set_option maxRecDepth 100000 in
theorem f_L_law_694 : am_cd k_L_law 694 = some ((some .boolean), .iadd, (0, 0, 0, 0, 0, .null)) := rfl
theorem s_L_law_694 {ls : am_L} {st : List Value} {σ : am_H} {Q : Option Value → am_H → Prop} {x y : Int32} : ax k_L_law 694 ls (.int y :: .int x :: st) σ Q = ax k_L_law 695 ls (.int (x + y) :: st) σ Q := ru_pure f_L_law_694 rfl rfl
set_option maxRecDepth 100000 in
theorem f_L_law_695 : am_cd k_L_law 695 = some ((some .boolean), .iaload, (0, 0, 0, 0, 0, .null)) := rfl
theorem s_L_law_695 {ls : am_L} {st : List Value} {σ : am_H} {Q : Option Value → am_H → Prop} {a : Nat} {j : Int32} : ax k_L_law 695 ls (.int j :: .ref a :: st) σ Q = ax_f (am_j σ a) (fun q => q.1 = 0 ∧ am_ix j q.2.1 ∧ ax k_L_law 696 ls (.int (q.2.2 j.toNatClampNeg) :: st) σ Q) := rv_iald f_L_law_695 rfl
set_option maxRecDepth 100000 in
theorem f_L_law_696 : am_cd k_L_law 696 = some ((some .boolean), .invokevirtual 71, (137, 2, 1195, 0, 11, .null)) := rfl
theorem s_L_law_696 {ls : am_L} {st : List Value} {σ : am_H} {Q : Option Value → am_H → Prop} {p0 : Int32} {p1 : Int32} {b : Nat} (hi : am_is σ b 11) (h8 : am_s8 st) : ax k_L_law 696 ls (.int p1 :: .int p0 :: .ref b :: st) σ Q = ax k_M_set 0 [some (.ref b), some (.int p0), some (.int p1), none, none, none] [] σ (ax_k k_L_law 699 ls st Q) := ru_vir (M' := rk_M_set) f_L_law_696 rfl rfl rfl rfl hi h8 rfl rfl rfl rfl rfl
set_option maxRecDepth 100000 in
theorem f_L_law_699 : am_cd k_L_law 699 = some ((some .boolean), .if_icmp .eq 691, (1390, 0, 0, 0, 0, .null)) := rfl
theorem s_L_law_699 {ls : am_L} {st : List Value} {σ : am_H} {Q : Option Value → am_H → Prop} {x y : Int32} : ax k_L_law 699 ls (.int y :: .int x :: st) σ Q = (if x = y then ax k_L_law 1390 ls st σ Q else ax k_L_law 702 ls st σ Q) := (ru_icmp f_L_law_699 rfl).trans (ru_i_eq _ _ _ _)
set_option maxRecDepth 100000 in
theorem f_L_law_702 : am_cd k_L_law 702 = some ((some .boolean), .iconst 0, (0, 0, 0, 0, 0, .null)) := rfl
theorem s_L_law_702 {ls : am_L} {st : List Value} {σ : am_H} {Q : Option Value → am_H → Prop} : ax k_L_law 702 ls st σ Q = ax k_L_law 703 ls (.int 0 :: st) σ Q := ru_iconst f_L_law_702 (by decide +kernel) rfl
set_option maxRecDepth 100000 in
theorem f_L_law_703 : am_cd k_L_law 703 = some ((some .boolean), .ireturn, (0, 0, 0, 0, 0, .null)) := rfl
theorem s_L_law_703 {ls : am_L} {σ : am_H} {Q : Option Value → am_H → Prop} {v : Int32} : ax k_L_law 703 ls ([.int v]) σ Q = (am_nar .boolean v = true ∧ Q (some (.int v)) σ) := ru_iret f_L_law_703
set_option maxRecDepth 100000 in
theorem f_L_law_704 : am_cd k_L_law 704 = some ((some .boolean), .aload_n 1, (0, 0, 0, 0, 0, .null)) := rfl
theorem s_L_law_704 {a0 a2 a3 : Option Value} {st : List Value} {σ : am_H} {Q : Option Value → am_H → Prop} {x : Nat} : ax k_L_law 704 [a0, some (.ref x), a2, a3] st σ Q = ax k_L_law 705 [a0, some (.ref x), a2, a3] (.ref x :: st) σ Q := ru_loc (q := (_, _)) f_L_law_704 rfl rfl rfl
theorem s_L_law_704n {a0 a2 a3 : Option Value} {st : List Value} {σ : am_H} {Q : Option Value → am_H → Prop} : ax k_L_law 704 [a0, some .null, a2, a3] st σ Q = ax k_L_law 705 [a0, some .null, a2, a3] (.null :: st) σ Q := ru_loc (q := (_, _)) f_L_law_704 rfl rfl rfl
set_option maxRecDepth 100000 in
theorem f_L_law_705 : am_cd k_L_law 705 = some ((some .boolean), .aload_n 0, (0, 0, 0, 0, 0, .null)) := rfl
theorem s_L_law_705 {a1 a2 a3 : Option Value} {st : List Value} {σ : am_H} {Q : Option Value → am_H → Prop} {x : Nat} : ax k_L_law 705 [some (.ref x), a1, a2, a3] st σ Q = ax k_L_law 706 [some (.ref x), a1, a2, a3] (.ref x :: st) σ Q := ru_loc (q := (_, _)) f_L_law_705 rfl rfl rfl
set_option maxRecDepth 100000 in
theorem f_L_law_706 : am_cd k_L_law 706 = some ((some .boolean), .iload_n 3, (0, 0, 0, 0, 0, .null)) := rfl
theorem s_L_law_706 {a0 a1 a2 : Option Value} {st : List Value} {σ : am_H} {Q : Option Value → am_H → Prop} {x : Int32} : ax k_L_law 706 [a0, a1, a2, some (.int x)] st σ Q = ax k_L_law 707 [a0, a1, a2, some (.int x)] (.int x :: st) σ Q := ru_loc (q := (_, _)) f_L_law_706 rfl rfl rfl
set_option maxRecDepth 100000 in
theorem f_L_law_707 : am_cd k_L_law 707 = some ((some .boolean), .iconst 1, (0, 0, 0, 0, 0, .null)) := rfl
theorem s_L_law_707 {ls : am_L} {st : List Value} {σ : am_H} {Q : Option Value → am_H → Prop} : ax k_L_law 707 ls st σ Q = ax k_L_law 708 ls (.int 1 :: st) σ Q := ru_iconst f_L_law_707 (by decide +kernel) rfl
set_option maxRecDepth 100000 in
theorem f_L_law_708 : am_cd k_L_law 708 = some ((some .boolean), .iadd, (0, 0, 0, 0, 0, .null)) := rfl
theorem s_L_law_708 {ls : am_L} {st : List Value} {σ : am_H} {Q : Option Value → am_H → Prop} {x y : Int32} : ax k_L_law 708 ls (.int y :: .int x :: st) σ Q = ax k_L_law 709 ls (.int (x + y) :: st) σ Q := ru_pure f_L_law_708 rfl rfl
set_option maxRecDepth 100000 in
theorem f_L_law_709 : am_cd k_L_law 709 = some ((some .boolean), .iaload, (0, 0, 0, 0, 0, .null)) := rfl
theorem s_L_law_709 {ls : am_L} {st : List Value} {σ : am_H} {Q : Option Value → am_H → Prop} {a : Nat} {j : Int32} : ax k_L_law 709 ls (.int j :: .ref a :: st) σ Q = ax_f (am_j σ a) (fun q => q.1 = 0 ∧ am_ix j q.2.1 ∧ ax k_L_law 710 ls (.int (q.2.2 j.toNatClampNeg) :: st) σ Q) := rv_iald f_L_law_709 rfl
set_option maxRecDepth 100000 in
theorem f_L_law_710 : am_cd k_L_law 710 = some ((some .boolean), .aload_n 0, (0, 0, 0, 0, 0, .null)) := rfl
theorem s_L_law_710 {a1 a2 a3 : Option Value} {st : List Value} {σ : am_H} {Q : Option Value → am_H → Prop} {x : Nat} : ax k_L_law 710 [some (.ref x), a1, a2, a3] st σ Q = ax k_L_law 711 [some (.ref x), a1, a2, a3] (.ref x :: st) σ Q := ru_loc (q := (_, _)) f_L_law_710 rfl rfl rfl
set_option maxRecDepth 100000 in
theorem f_L_law_711 : am_cd k_L_law 711 = some ((some .boolean), .iload_n 3, (0, 0, 0, 0, 0, .null)) := rfl
theorem s_L_law_711 {a0 a1 a2 : Option Value} {st : List Value} {σ : am_H} {Q : Option Value → am_H → Prop} {x : Int32} : ax k_L_law 711 [a0, a1, a2, some (.int x)] st σ Q = ax k_L_law 712 [a0, a1, a2, some (.int x)] (.int x :: st) σ Q := ru_loc (q := (_, _)) f_L_law_711 rfl rfl rfl
set_option maxRecDepth 100000 in
theorem f_L_law_712 : am_cd k_L_law 712 = some ((some .boolean), .iconst 2, (0, 0, 0, 0, 0, .null)) := rfl
theorem s_L_law_712 {ls : am_L} {st : List Value} {σ : am_H} {Q : Option Value → am_H → Prop} : ax k_L_law 712 ls st σ Q = ax k_L_law 713 ls (.int 2 :: st) σ Q := ru_iconst f_L_law_712 (by decide +kernel) rfl
set_option maxRecDepth 100000 in
theorem f_L_law_713 : am_cd k_L_law 713 = some ((some .boolean), .iadd, (0, 0, 0, 0, 0, .null)) := rfl
theorem s_L_law_713 {ls : am_L} {st : List Value} {σ : am_H} {Q : Option Value → am_H → Prop} {x y : Int32} : ax k_L_law 713 ls (.int y :: .int x :: st) σ Q = ax k_L_law 714 ls (.int (x + y) :: st) σ Q := ru_pure f_L_law_713 rfl rfl
set_option maxRecDepth 100000 in
theorem f_L_law_714 : am_cd k_L_law 714 = some ((some .boolean), .iaload, (0, 0, 0, 0, 0, .null)) := rfl
theorem s_L_law_714 {ls : am_L} {st : List Value} {σ : am_H} {Q : Option Value → am_H → Prop} {a : Nat} {j : Int32} : ax k_L_law 714 ls (.int j :: .ref a :: st) σ Q = ax_f (am_j σ a) (fun q => q.1 = 0 ∧ am_ix j q.2.1 ∧ ax k_L_law 715 ls (.int (q.2.2 j.toNatClampNeg) :: st) σ Q) := rv_iald f_L_law_714 rfl
set_option maxRecDepth 100000 in
theorem f_L_law_715 : am_cd k_L_law 715 = some ((some .boolean), .ifCond .eq 7, (722, 0, 0, 0, 0, .null)) := rfl
theorem s_L_law_715 {ls : am_L} {st : List Value} {σ : am_H} {Q : Option Value → am_H → Prop} {x : Int32} : ax k_L_law 715 ls (.int x :: st) σ Q = (if x = 0 then ax k_L_law 722 ls st σ Q else ax k_L_law 718 ls st σ Q) := (ru_if f_L_law_715 rfl).trans (ru_i_eq _ _ _ _)
set_option maxRecDepth 100000 in
theorem f_L_law_718 : am_cd k_L_law 718 = some ((some .boolean), .iconst 1, (0, 0, 0, 0, 0, .null)) := rfl
theorem s_L_law_718 {ls : am_L} {st : List Value} {σ : am_H} {Q : Option Value → am_H → Prop} : ax k_L_law 718 ls st σ Q = ax k_L_law 719 ls (.int 1 :: st) σ Q := ru_iconst f_L_law_718 (by decide +kernel) rfl
set_option maxRecDepth 100000 in
theorem f_L_law_719 : am_cd k_L_law 719 = some ((some .boolean), .goto 4, (723, 0, 0, 0, 0, .null)) := rfl
theorem s_L_law_719 {ls : am_L} {st : List Value} {σ : am_H} {Q : Option Value → am_H → Prop} : ax k_L_law 719 ls st σ Q = ax k_L_law 723 ls st σ Q := ru_goto f_L_law_719
set_option maxRecDepth 100000 in
theorem f_L_law_722 : am_cd k_L_law 722 = some ((some .boolean), .iconst 0, (0, 0, 0, 0, 0, .null)) := rfl
theorem s_L_law_722 {ls : am_L} {st : List Value} {σ : am_H} {Q : Option Value → am_H → Prop} : ax k_L_law 722 ls st σ Q = ax k_L_law 723 ls (.int 0 :: st) σ Q := ru_iconst f_L_law_722 (by decide +kernel) rfl
set_option maxRecDepth 100000 in
theorem f_L_law_723 : am_cd k_L_law 723 = some ((some .boolean), .invokevirtual 72, (82, 2, 499, 0, 10, .null)) := rfl
theorem s_L_law_723 {ls : am_L} {st : List Value} {σ : am_H} {Q : Option Value → am_H → Prop} {p0 : Int32} {p1 : Int32} {b : Nat} (hi : am_is σ b 10) (h8 : am_s8 st) : ax k_L_law 723 ls (.int p1 :: .int p0 :: .ref b :: st) σ Q = ax k_A_leave 0 [some (.ref b), some (.int p0), some (.int p1)] [] σ (ax_k k_L_law 726 ls st Q) := ru_vir (M' := rk_A_leave) f_L_law_723 rfl rfl rfl rfl hi h8 rfl rfl rfl rfl rfl
set_option maxRecDepth 100000 in
theorem f_L_law_726 : am_cd k_L_law 726 = some ((some .boolean), .aload_n 2, (0, 0, 0, 0, 0, .null)) := rfl
theorem s_L_law_726 {a0 a1 a3 : Option Value} {st : List Value} {σ : am_H} {Q : Option Value → am_H → Prop} {x : Nat} : ax k_L_law 726 [a0, a1, some (.ref x), a3] st σ Q = ax k_L_law 727 [a0, a1, some (.ref x), a3] (.ref x :: st) σ Q := ru_loc (q := (_, _)) f_L_law_726 rfl rfl rfl
theorem s_L_law_726n {a0 a1 a3 : Option Value} {st : List Value} {σ : am_H} {Q : Option Value → am_H → Prop} : ax k_L_law 726 [a0, a1, some .null, a3] st σ Q = ax k_L_law 727 [a0, a1, some .null, a3] (.null :: st) σ Q := ru_loc (q := (_, _)) f_L_law_726 rfl rfl rfl
set_option maxRecDepth 100000 in
theorem f_L_law_727 : am_cd k_L_law 727 = some ((some .boolean), .aload_n 0, (0, 0, 0, 0, 0, .null)) := rfl
theorem s_L_law_727 {a1 a2 a3 : Option Value} {st : List Value} {σ : am_H} {Q : Option Value → am_H → Prop} {x : Nat} : ax k_L_law 727 [some (.ref x), a1, a2, a3] st σ Q = ax k_L_law 728 [some (.ref x), a1, a2, a3] (.ref x :: st) σ Q := ru_loc (q := (_, _)) f_L_law_727 rfl rfl rfl
set_option maxRecDepth 100000 in
theorem f_L_law_728 : am_cd k_L_law 728 = some ((some .boolean), .iload_n 3, (0, 0, 0, 0, 0, .null)) := rfl
theorem s_L_law_728 {a0 a1 a2 : Option Value} {st : List Value} {σ : am_H} {Q : Option Value → am_H → Prop} {x : Int32} : ax k_L_law 728 [a0, a1, a2, some (.int x)] st σ Q = ax k_L_law 729 [a0, a1, a2, some (.int x)] (.int x :: st) σ Q := ru_loc (q := (_, _)) f_L_law_728 rfl rfl rfl
set_option maxRecDepth 100000 in
theorem f_L_law_729 : am_cd k_L_law 729 = some ((some .boolean), .iconst 1, (0, 0, 0, 0, 0, .null)) := rfl
theorem s_L_law_729 {ls : am_L} {st : List Value} {σ : am_H} {Q : Option Value → am_H → Prop} : ax k_L_law 729 ls st σ Q = ax k_L_law 730 ls (.int 1 :: st) σ Q := ru_iconst f_L_law_729 (by decide +kernel) rfl
set_option maxRecDepth 100000 in
theorem f_L_law_730 : am_cd k_L_law 730 = some ((some .boolean), .iadd, (0, 0, 0, 0, 0, .null)) := rfl
theorem s_L_law_730 {ls : am_L} {st : List Value} {σ : am_H} {Q : Option Value → am_H → Prop} {x y : Int32} : ax k_L_law 730 ls (.int y :: .int x :: st) σ Q = ax k_L_law 731 ls (.int (x + y) :: st) σ Q := ru_pure f_L_law_730 rfl rfl
set_option maxRecDepth 100000 in
theorem f_L_law_731 : am_cd k_L_law 731 = some ((some .boolean), .iaload, (0, 0, 0, 0, 0, .null)) := rfl
theorem s_L_law_731 {ls : am_L} {st : List Value} {σ : am_H} {Q : Option Value → am_H → Prop} {a : Nat} {j : Int32} : ax k_L_law 731 ls (.int j :: .ref a :: st) σ Q = ax_f (am_j σ a) (fun q => q.1 = 0 ∧ am_ix j q.2.1 ∧ ax k_L_law 732 ls (.int (q.2.2 j.toNatClampNeg) :: st) σ Q) := rv_iald f_L_law_731 rfl
set_option maxRecDepth 100000 in
theorem f_L_law_732 : am_cd k_L_law 732 = some ((some .boolean), .aload_n 0, (0, 0, 0, 0, 0, .null)) := rfl
theorem s_L_law_732 {a1 a2 a3 : Option Value} {st : List Value} {σ : am_H} {Q : Option Value → am_H → Prop} {x : Nat} : ax k_L_law 732 [some (.ref x), a1, a2, a3] st σ Q = ax k_L_law 733 [some (.ref x), a1, a2, a3] (.ref x :: st) σ Q := ru_loc (q := (_, _)) f_L_law_732 rfl rfl rfl
set_option maxRecDepth 100000 in
theorem f_L_law_733 : am_cd k_L_law 733 = some ((some .boolean), .iload_n 3, (0, 0, 0, 0, 0, .null)) := rfl
theorem s_L_law_733 {a0 a1 a2 : Option Value} {st : List Value} {σ : am_H} {Q : Option Value → am_H → Prop} {x : Int32} : ax k_L_law 733 [a0, a1, a2, some (.int x)] st σ Q = ax k_L_law 734 [a0, a1, a2, some (.int x)] (.int x :: st) σ Q := ru_loc (q := (_, _)) f_L_law_733 rfl rfl rfl
set_option maxRecDepth 100000 in
theorem f_L_law_734 : am_cd k_L_law 734 = some ((some .boolean), .iconst 2, (0, 0, 0, 0, 0, .null)) := rfl
theorem s_L_law_734 {ls : am_L} {st : List Value} {σ : am_H} {Q : Option Value → am_H → Prop} : ax k_L_law 734 ls st σ Q = ax k_L_law 735 ls (.int 2 :: st) σ Q := ru_iconst f_L_law_734 (by decide +kernel) rfl
set_option maxRecDepth 100000 in
theorem f_L_law_735 : am_cd k_L_law 735 = some ((some .boolean), .iadd, (0, 0, 0, 0, 0, .null)) := rfl
theorem s_L_law_735 {ls : am_L} {st : List Value} {σ : am_H} {Q : Option Value → am_H → Prop} {x y : Int32} : ax k_L_law 735 ls (.int y :: .int x :: st) σ Q = ax k_L_law 736 ls (.int (x + y) :: st) σ Q := ru_pure f_L_law_735 rfl rfl
set_option maxRecDepth 100000 in
theorem f_L_law_736 : am_cd k_L_law 736 = some ((some .boolean), .iaload, (0, 0, 0, 0, 0, .null)) := rfl
theorem s_L_law_736 {ls : am_L} {st : List Value} {σ : am_H} {Q : Option Value → am_H → Prop} {a : Nat} {j : Int32} : ax k_L_law 736 ls (.int j :: .ref a :: st) σ Q = ax_f (am_j σ a) (fun q => q.1 = 0 ∧ am_ix j q.2.1 ∧ ax k_L_law 737 ls (.int (q.2.2 j.toNatClampNeg) :: st) σ Q) := rv_iald f_L_law_736 rfl
set_option maxRecDepth 100000 in
theorem f_L_law_737 : am_cd k_L_law 737 = some ((some .boolean), .ifCond .eq 7, (744, 0, 0, 0, 0, .null)) := rfl
theorem s_L_law_737 {ls : am_L} {st : List Value} {σ : am_H} {Q : Option Value → am_H → Prop} {x : Int32} : ax k_L_law 737 ls (.int x :: st) σ Q = (if x = 0 then ax k_L_law 744 ls st σ Q else ax k_L_law 740 ls st σ Q) := (ru_if f_L_law_737 rfl).trans (ru_i_eq _ _ _ _)
set_option maxRecDepth 100000 in
theorem f_L_law_740 : am_cd k_L_law 740 = some ((some .boolean), .iconst 1, (0, 0, 0, 0, 0, .null)) := rfl
theorem s_L_law_740 {ls : am_L} {st : List Value} {σ : am_H} {Q : Option Value → am_H → Prop} : ax k_L_law 740 ls st σ Q = ax k_L_law 741 ls (.int 1 :: st) σ Q := ru_iconst f_L_law_740 (by decide +kernel) rfl
set_option maxRecDepth 100000 in
theorem f_L_law_741 : am_cd k_L_law 741 = some ((some .boolean), .goto 4, (745, 0, 0, 0, 0, .null)) := rfl
theorem s_L_law_741 {ls : am_L} {st : List Value} {σ : am_H} {Q : Option Value → am_H → Prop} : ax k_L_law 741 ls st σ Q = ax k_L_law 745 ls st σ Q := ru_goto f_L_law_741
set_option maxRecDepth 100000 in
theorem f_L_law_744 : am_cd k_L_law 744 = some ((some .boolean), .iconst 0, (0, 0, 0, 0, 0, .null)) := rfl
theorem s_L_law_744 {ls : am_L} {st : List Value} {σ : am_H} {Q : Option Value → am_H → Prop} : ax k_L_law 744 ls st σ Q = ax k_L_law 745 ls (.int 0 :: st) σ Q := ru_iconst f_L_law_744 (by decide +kernel) rfl
set_option maxRecDepth 100000 in
theorem f_L_law_745 : am_cd k_L_law 745 = some ((some .boolean), .invokevirtual 76, (138, 2, 1207, 0, 11, .null)) := rfl
theorem s_L_law_745 {ls : am_L} {st : List Value} {σ : am_H} {Q : Option Value → am_H → Prop} {p0 : Int32} {p1 : Int32} {b : Nat} (hi : am_is σ b 11) (h8 : am_s8 st) : ax k_L_law 745 ls (.int p1 :: .int p0 :: .ref b :: st) σ Q = ax k_M_leave 0 [some (.ref b), some (.int p0), some (.int p1)] [] σ (ax_k k_L_law 748 ls st Q) := ru_vir (M' := rk_M_leave) f_L_law_745 rfl rfl rfl rfl hi h8 rfl rfl rfl rfl rfl
set_option maxRecDepth 100000 in
theorem f_L_law_748 : am_cd k_L_law 748 = some ((some .boolean), .if_icmp .eq 642, (1390, 0, 0, 0, 0, .null)) := rfl
theorem s_L_law_748 {ls : am_L} {st : List Value} {σ : am_H} {Q : Option Value → am_H → Prop} {x y : Int32} : ax k_L_law 748 ls (.int y :: .int x :: st) σ Q = (if x = y then ax k_L_law 1390 ls st σ Q else ax k_L_law 751 ls st σ Q) := (ru_icmp f_L_law_748 rfl).trans (ru_i_eq _ _ _ _)
set_option maxRecDepth 100000 in
theorem f_L_law_751 : am_cd k_L_law 751 = some ((some .boolean), .iconst 0, (0, 0, 0, 0, 0, .null)) := rfl
theorem s_L_law_751 {ls : am_L} {st : List Value} {σ : am_H} {Q : Option Value → am_H → Prop} : ax k_L_law 751 ls st σ Q = ax k_L_law 752 ls (.int 0 :: st) σ Q := ru_iconst f_L_law_751 (by decide +kernel) rfl
set_option maxRecDepth 100000 in
theorem f_L_law_752 : am_cd k_L_law 752 = some ((some .boolean), .ireturn, (0, 0, 0, 0, 0, .null)) := rfl
theorem s_L_law_752 {ls : am_L} {σ : am_H} {Q : Option Value → am_H → Prop} {v : Int32} : ax k_L_law 752 ls ([.int v]) σ Q = (am_nar .boolean v = true ∧ Q (some (.int v)) σ) := ru_iret f_L_law_752
set_option maxRecDepth 100000 in
theorem f_L_law_753 : am_cd k_L_law 753 = some ((some .boolean), .aload_n 1, (0, 0, 0, 0, 0, .null)) := rfl
theorem s_L_law_753 {a0 a2 a3 : Option Value} {st : List Value} {σ : am_H} {Q : Option Value → am_H → Prop} {x : Nat} : ax k_L_law 753 [a0, some (.ref x), a2, a3] st σ Q = ax k_L_law 754 [a0, some (.ref x), a2, a3] (.ref x :: st) σ Q := ru_loc (q := (_, _)) f_L_law_753 rfl rfl rfl
theorem s_L_law_753n {a0 a2 a3 : Option Value} {st : List Value} {σ : am_H} {Q : Option Value → am_H → Prop} : ax k_L_law 753 [a0, some .null, a2, a3] st σ Q = ax k_L_law 754 [a0, some .null, a2, a3] (.null :: st) σ Q := ru_loc (q := (_, _)) f_L_law_753 rfl rfl rfl
set_option maxRecDepth 100000 in
theorem f_L_law_754 : am_cd k_L_law 754 = some ((some .boolean), .aload_n 0, (0, 0, 0, 0, 0, .null)) := rfl
theorem s_L_law_754 {a1 a2 a3 : Option Value} {st : List Value} {σ : am_H} {Q : Option Value → am_H → Prop} {x : Nat} : ax k_L_law 754 [some (.ref x), a1, a2, a3] st σ Q = ax k_L_law 755 [some (.ref x), a1, a2, a3] (.ref x :: st) σ Q := ru_loc (q := (_, _)) f_L_law_754 rfl rfl rfl
set_option maxRecDepth 100000 in
theorem f_L_law_755 : am_cd k_L_law 755 = some ((some .boolean), .iload_n 3, (0, 0, 0, 0, 0, .null)) := rfl
theorem s_L_law_755 {a0 a1 a2 : Option Value} {st : List Value} {σ : am_H} {Q : Option Value → am_H → Prop} {x : Int32} : ax k_L_law 755 [a0, a1, a2, some (.int x)] st σ Q = ax k_L_law 756 [a0, a1, a2, some (.int x)] (.int x :: st) σ Q := ru_loc (q := (_, _)) f_L_law_755 rfl rfl rfl
set_option maxRecDepth 100000 in
theorem f_L_law_756 : am_cd k_L_law 756 = some ((some .boolean), .iconst 1, (0, 0, 0, 0, 0, .null)) := rfl
theorem s_L_law_756 {ls : am_L} {st : List Value} {σ : am_H} {Q : Option Value → am_H → Prop} : ax k_L_law 756 ls st σ Q = ax k_L_law 757 ls (.int 1 :: st) σ Q := ru_iconst f_L_law_756 (by decide +kernel) rfl
set_option maxRecDepth 100000 in
theorem f_L_law_757 : am_cd k_L_law 757 = some ((some .boolean), .iadd, (0, 0, 0, 0, 0, .null)) := rfl
theorem s_L_law_757 {ls : am_L} {st : List Value} {σ : am_H} {Q : Option Value → am_H → Prop} {x y : Int32} : ax k_L_law 757 ls (.int y :: .int x :: st) σ Q = ax k_L_law 758 ls (.int (x + y) :: st) σ Q := ru_pure f_L_law_757 rfl rfl
set_option maxRecDepth 100000 in
theorem f_L_law_758 : am_cd k_L_law 758 = some ((some .boolean), .iaload, (0, 0, 0, 0, 0, .null)) := rfl
theorem s_L_law_758 {ls : am_L} {st : List Value} {σ : am_H} {Q : Option Value → am_H → Prop} {a : Nat} {j : Int32} : ax k_L_law 758 ls (.int j :: .ref a :: st) σ Q = ax_f (am_j σ a) (fun q => q.1 = 0 ∧ am_ix j q.2.1 ∧ ax k_L_law 759 ls (.int (q.2.2 j.toNatClampNeg) :: st) σ Q) := rv_iald f_L_law_758 rfl
set_option maxRecDepth 100000 in
theorem f_L_law_759 : am_cd k_L_law 759 = some ((some .boolean), .aload_n 0, (0, 0, 0, 0, 0, .null)) := rfl
theorem s_L_law_759 {a1 a2 a3 : Option Value} {st : List Value} {σ : am_H} {Q : Option Value → am_H → Prop} {x : Nat} : ax k_L_law 759 [some (.ref x), a1, a2, a3] st σ Q = ax k_L_law 760 [some (.ref x), a1, a2, a3] (.ref x :: st) σ Q := ru_loc (q := (_, _)) f_L_law_759 rfl rfl rfl
set_option maxRecDepth 100000 in
theorem f_L_law_760 : am_cd k_L_law 760 = some ((some .boolean), .iload_n 3, (0, 0, 0, 0, 0, .null)) := rfl
theorem s_L_law_760 {a0 a1 a2 : Option Value} {st : List Value} {σ : am_H} {Q : Option Value → am_H → Prop} {x : Int32} : ax k_L_law 760 [a0, a1, a2, some (.int x)] st σ Q = ax k_L_law 761 [a0, a1, a2, some (.int x)] (.int x :: st) σ Q := ru_loc (q := (_, _)) f_L_law_760 rfl rfl rfl
set_option maxRecDepth 100000 in
theorem f_L_law_761 : am_cd k_L_law 761 = some ((some .boolean), .iconst 2, (0, 0, 0, 0, 0, .null)) := rfl
theorem s_L_law_761 {ls : am_L} {st : List Value} {σ : am_H} {Q : Option Value → am_H → Prop} : ax k_L_law 761 ls st σ Q = ax k_L_law 762 ls (.int 2 :: st) σ Q := ru_iconst f_L_law_761 (by decide +kernel) rfl
set_option maxRecDepth 100000 in
theorem f_L_law_762 : am_cd k_L_law 762 = some ((some .boolean), .iadd, (0, 0, 0, 0, 0, .null)) := rfl
theorem s_L_law_762 {ls : am_L} {st : List Value} {σ : am_H} {Q : Option Value → am_H → Prop} {x y : Int32} : ax k_L_law 762 ls (.int y :: .int x :: st) σ Q = ax k_L_law 763 ls (.int (x + y) :: st) σ Q := ru_pure f_L_law_762 rfl rfl
set_option maxRecDepth 100000 in
theorem f_L_law_763 : am_cd k_L_law 763 = some ((some .boolean), .iaload, (0, 0, 0, 0, 0, .null)) := rfl
theorem s_L_law_763 {ls : am_L} {st : List Value} {σ : am_H} {Q : Option Value → am_H → Prop} {a : Nat} {j : Int32} : ax k_L_law 763 ls (.int j :: .ref a :: st) σ Q = ax_f (am_j σ a) (fun q => q.1 = 0 ∧ am_ix j q.2.1 ∧ ax k_L_law 764 ls (.int (q.2.2 j.toNatClampNeg) :: st) σ Q) := rv_iald f_L_law_763 rfl
set_option maxRecDepth 100000 in
theorem f_L_law_764 : am_cd k_L_law 764 = some ((some .boolean), .invokevirtual 77, (83, 2, 504, 0, 10, .null)) := rfl
theorem s_L_law_764 {ls : am_L} {st : List Value} {σ : am_H} {Q : Option Value → am_H → Prop} {p0 : Int32} {p1 : Int32} {b : Nat} (hi : am_is σ b 10) (h8 : am_s8 st) : ax k_L_law 764 ls (.int p1 :: .int p0 :: .ref b :: st) σ Q = ax k_A_embargo 0 [some (.ref b), some (.int p0), some (.int p1)] [] σ (ax_k k_L_law 767 ls st Q) := ru_vir (M' := rk_A_embargo) f_L_law_764 rfl rfl rfl rfl hi h8 rfl rfl rfl rfl rfl
set_option maxRecDepth 100000 in
theorem f_L_law_767 : am_cd k_L_law 767 = some ((some .boolean), .aload_n 2, (0, 0, 0, 0, 0, .null)) := rfl
theorem s_L_law_767 {a0 a1 a3 : Option Value} {st : List Value} {σ : am_H} {Q : Option Value → am_H → Prop} {x : Nat} : ax k_L_law 767 [a0, a1, some (.ref x), a3] st σ Q = ax k_L_law 768 [a0, a1, some (.ref x), a3] (.ref x :: st) σ Q := ru_loc (q := (_, _)) f_L_law_767 rfl rfl rfl
theorem s_L_law_767n {a0 a1 a3 : Option Value} {st : List Value} {σ : am_H} {Q : Option Value → am_H → Prop} : ax k_L_law 767 [a0, a1, some .null, a3] st σ Q = ax k_L_law 768 [a0, a1, some .null, a3] (.null :: st) σ Q := ru_loc (q := (_, _)) f_L_law_767 rfl rfl rfl
set_option maxRecDepth 100000 in
theorem f_L_law_768 : am_cd k_L_law 768 = some ((some .boolean), .aload_n 0, (0, 0, 0, 0, 0, .null)) := rfl
theorem s_L_law_768 {a1 a2 a3 : Option Value} {st : List Value} {σ : am_H} {Q : Option Value → am_H → Prop} {x : Nat} : ax k_L_law 768 [some (.ref x), a1, a2, a3] st σ Q = ax k_L_law 769 [some (.ref x), a1, a2, a3] (.ref x :: st) σ Q := ru_loc (q := (_, _)) f_L_law_768 rfl rfl rfl
set_option maxRecDepth 100000 in
theorem f_L_law_769 : am_cd k_L_law 769 = some ((some .boolean), .iload_n 3, (0, 0, 0, 0, 0, .null)) := rfl
theorem s_L_law_769 {a0 a1 a2 : Option Value} {st : List Value} {σ : am_H} {Q : Option Value → am_H → Prop} {x : Int32} : ax k_L_law 769 [a0, a1, a2, some (.int x)] st σ Q = ax k_L_law 770 [a0, a1, a2, some (.int x)] (.int x :: st) σ Q := ru_loc (q := (_, _)) f_L_law_769 rfl rfl rfl
set_option maxRecDepth 100000 in
theorem f_L_law_770 : am_cd k_L_law 770 = some ((some .boolean), .iconst 1, (0, 0, 0, 0, 0, .null)) := rfl
theorem s_L_law_770 {ls : am_L} {st : List Value} {σ : am_H} {Q : Option Value → am_H → Prop} : ax k_L_law 770 ls st σ Q = ax k_L_law 771 ls (.int 1 :: st) σ Q := ru_iconst f_L_law_770 (by decide +kernel) rfl
set_option maxRecDepth 100000 in
theorem f_L_law_771 : am_cd k_L_law 771 = some ((some .boolean), .iadd, (0, 0, 0, 0, 0, .null)) := rfl
theorem s_L_law_771 {ls : am_L} {st : List Value} {σ : am_H} {Q : Option Value → am_H → Prop} {x y : Int32} : ax k_L_law 771 ls (.int y :: .int x :: st) σ Q = ax k_L_law 772 ls (.int (x + y) :: st) σ Q := ru_pure f_L_law_771 rfl rfl
set_option maxRecDepth 100000 in
theorem f_L_law_772 : am_cd k_L_law 772 = some ((some .boolean), .iaload, (0, 0, 0, 0, 0, .null)) := rfl
theorem s_L_law_772 {ls : am_L} {st : List Value} {σ : am_H} {Q : Option Value → am_H → Prop} {a : Nat} {j : Int32} : ax k_L_law 772 ls (.int j :: .ref a :: st) σ Q = ax_f (am_j σ a) (fun q => q.1 = 0 ∧ am_ix j q.2.1 ∧ ax k_L_law 773 ls (.int (q.2.2 j.toNatClampNeg) :: st) σ Q) := rv_iald f_L_law_772 rfl
set_option maxRecDepth 100000 in
theorem f_L_law_773 : am_cd k_L_law 773 = some ((some .boolean), .aload_n 0, (0, 0, 0, 0, 0, .null)) := rfl
theorem s_L_law_773 {a1 a2 a3 : Option Value} {st : List Value} {σ : am_H} {Q : Option Value → am_H → Prop} {x : Nat} : ax k_L_law 773 [some (.ref x), a1, a2, a3] st σ Q = ax k_L_law 774 [some (.ref x), a1, a2, a3] (.ref x :: st) σ Q := ru_loc (q := (_, _)) f_L_law_773 rfl rfl rfl
set_option maxRecDepth 100000 in
theorem f_L_law_774 : am_cd k_L_law 774 = some ((some .boolean), .iload_n 3, (0, 0, 0, 0, 0, .null)) := rfl
theorem s_L_law_774 {a0 a1 a2 : Option Value} {st : List Value} {σ : am_H} {Q : Option Value → am_H → Prop} {x : Int32} : ax k_L_law 774 [a0, a1, a2, some (.int x)] st σ Q = ax k_L_law 775 [a0, a1, a2, some (.int x)] (.int x :: st) σ Q := ru_loc (q := (_, _)) f_L_law_774 rfl rfl rfl
set_option maxRecDepth 100000 in
theorem f_L_law_775 : am_cd k_L_law 775 = some ((some .boolean), .iconst 2, (0, 0, 0, 0, 0, .null)) := rfl
theorem s_L_law_775 {ls : am_L} {st : List Value} {σ : am_H} {Q : Option Value → am_H → Prop} : ax k_L_law 775 ls st σ Q = ax k_L_law 776 ls (.int 2 :: st) σ Q := ru_iconst f_L_law_775 (by decide +kernel) rfl
set_option maxRecDepth 100000 in
theorem f_L_law_776 : am_cd k_L_law 776 = some ((some .boolean), .iadd, (0, 0, 0, 0, 0, .null)) := rfl
theorem s_L_law_776 {ls : am_L} {st : List Value} {σ : am_H} {Q : Option Value → am_H → Prop} {x y : Int32} : ax k_L_law 776 ls (.int y :: .int x :: st) σ Q = ax k_L_law 777 ls (.int (x + y) :: st) σ Q := ru_pure f_L_law_776 rfl rfl
set_option maxRecDepth 100000 in
theorem f_L_law_777 : am_cd k_L_law 777 = some ((some .boolean), .iaload, (0, 0, 0, 0, 0, .null)) := rfl
theorem s_L_law_777 {ls : am_L} {st : List Value} {σ : am_H} {Q : Option Value → am_H → Prop} {a : Nat} {j : Int32} : ax k_L_law 777 ls (.int j :: .ref a :: st) σ Q = ax_f (am_j σ a) (fun q => q.1 = 0 ∧ am_ix j q.2.1 ∧ ax k_L_law 778 ls (.int (q.2.2 j.toNatClampNeg) :: st) σ Q) := rv_iald f_L_law_777 rfl
set_option maxRecDepth 100000 in
theorem f_L_law_778 : am_cd k_L_law 778 = some ((some .boolean), .invokevirtual 80, (139, 2, 1211, 0, 11, .null)) := rfl
theorem s_L_law_778 {ls : am_L} {st : List Value} {σ : am_H} {Q : Option Value → am_H → Prop} {p0 : Int32} {p1 : Int32} {b : Nat} (hi : am_is σ b 11) (h8 : am_s8 st) : ax k_L_law 778 ls (.int p1 :: .int p0 :: .ref b :: st) σ Q = ax k_M_embargo 0 [some (.ref b), some (.int p0), some (.int p1)] [] σ (ax_k k_L_law 781 ls st Q) := ru_vir (M' := rk_M_embargo) f_L_law_778 rfl rfl rfl rfl hi h8 rfl rfl rfl rfl rfl
set_option maxRecDepth 100000 in
theorem f_L_law_781 : am_cd k_L_law 781 = some ((some .boolean), .if_icmp .eq 609, (1390, 0, 0, 0, 0, .null)) := rfl
theorem s_L_law_781 {ls : am_L} {st : List Value} {σ : am_H} {Q : Option Value → am_H → Prop} {x y : Int32} : ax k_L_law 781 ls (.int y :: .int x :: st) σ Q = (if x = y then ax k_L_law 1390 ls st σ Q else ax k_L_law 784 ls st σ Q) := (ru_icmp f_L_law_781 rfl).trans (ru_i_eq _ _ _ _)
set_option maxRecDepth 100000 in
theorem f_L_law_784 : am_cd k_L_law 784 = some ((some .boolean), .iconst 0, (0, 0, 0, 0, 0, .null)) := rfl
theorem s_L_law_784 {ls : am_L} {st : List Value} {σ : am_H} {Q : Option Value → am_H → Prop} : ax k_L_law 784 ls st σ Q = ax k_L_law 785 ls (.int 0 :: st) σ Q := ru_iconst f_L_law_784 (by decide +kernel) rfl
set_option maxRecDepth 100000 in
theorem f_L_law_785 : am_cd k_L_law 785 = some ((some .boolean), .ireturn, (0, 0, 0, 0, 0, .null)) := rfl
theorem s_L_law_785 {ls : am_L} {σ : am_H} {Q : Option Value → am_H → Prop} {v : Int32} : ax k_L_law 785 ls ([.int v]) σ Q = (am_nar .boolean v = true ∧ Q (some (.int v)) σ) := ru_iret f_L_law_785
set_option maxRecDepth 100000 in
theorem f_L_law_786 : am_cd k_L_law 786 = some ((some .boolean), .aload_n 1, (0, 0, 0, 0, 0, .null)) := rfl
theorem s_L_law_786 {a0 a2 a3 : Option Value} {st : List Value} {σ : am_H} {Q : Option Value → am_H → Prop} {x : Nat} : ax k_L_law 786 [a0, some (.ref x), a2, a3] st σ Q = ax k_L_law 787 [a0, some (.ref x), a2, a3] (.ref x :: st) σ Q := ru_loc (q := (_, _)) f_L_law_786 rfl rfl rfl
theorem s_L_law_786n {a0 a2 a3 : Option Value} {st : List Value} {σ : am_H} {Q : Option Value → am_H → Prop} : ax k_L_law 786 [a0, some .null, a2, a3] st σ Q = ax k_L_law 787 [a0, some .null, a2, a3] (.null :: st) σ Q := ru_loc (q := (_, _)) f_L_law_786 rfl rfl rfl
set_option maxRecDepth 100000 in
theorem f_L_law_787 : am_cd k_L_law 787 = some ((some .boolean), .aload_n 0, (0, 0, 0, 0, 0, .null)) := rfl
theorem s_L_law_787 {a1 a2 a3 : Option Value} {st : List Value} {σ : am_H} {Q : Option Value → am_H → Prop} {x : Nat} : ax k_L_law 787 [some (.ref x), a1, a2, a3] st σ Q = ax k_L_law 788 [some (.ref x), a1, a2, a3] (.ref x :: st) σ Q := ru_loc (q := (_, _)) f_L_law_787 rfl rfl rfl
set_option maxRecDepth 100000 in
theorem f_L_law_788 : am_cd k_L_law 788 = some ((some .boolean), .iload_n 3, (0, 0, 0, 0, 0, .null)) := rfl
theorem s_L_law_788 {a0 a1 a2 : Option Value} {st : List Value} {σ : am_H} {Q : Option Value → am_H → Prop} {x : Int32} : ax k_L_law 788 [a0, a1, a2, some (.int x)] st σ Q = ax k_L_law 789 [a0, a1, a2, some (.int x)] (.int x :: st) σ Q := ru_loc (q := (_, _)) f_L_law_788 rfl rfl rfl
set_option maxRecDepth 100000 in
theorem f_L_law_789 : am_cd k_L_law 789 = some ((some .boolean), .iconst 1, (0, 0, 0, 0, 0, .null)) := rfl
theorem s_L_law_789 {ls : am_L} {st : List Value} {σ : am_H} {Q : Option Value → am_H → Prop} : ax k_L_law 789 ls st σ Q = ax k_L_law 790 ls (.int 1 :: st) σ Q := ru_iconst f_L_law_789 (by decide +kernel) rfl
set_option maxRecDepth 100000 in
theorem f_L_law_790 : am_cd k_L_law 790 = some ((some .boolean), .iadd, (0, 0, 0, 0, 0, .null)) := rfl
theorem s_L_law_790 {ls : am_L} {st : List Value} {σ : am_H} {Q : Option Value → am_H → Prop} {x y : Int32} : ax k_L_law 790 ls (.int y :: .int x :: st) σ Q = ax k_L_law 791 ls (.int (x + y) :: st) σ Q := ru_pure f_L_law_790 rfl rfl
set_option maxRecDepth 100000 in
theorem f_L_law_791 : am_cd k_L_law 791 = some ((some .boolean), .iaload, (0, 0, 0, 0, 0, .null)) := rfl
theorem s_L_law_791 {ls : am_L} {st : List Value} {σ : am_H} {Q : Option Value → am_H → Prop} {a : Nat} {j : Int32} : ax k_L_law 791 ls (.int j :: .ref a :: st) σ Q = ax_f (am_j σ a) (fun q => q.1 = 0 ∧ am_ix j q.2.1 ∧ ax k_L_law 792 ls (.int (q.2.2 j.toNatClampNeg) :: st) σ Q) := rv_iald f_L_law_791 rfl
set_option maxRecDepth 100000 in
theorem f_L_law_792 : am_cd k_L_law 792 = some ((some .boolean), .aload_n 0, (0, 0, 0, 0, 0, .null)) := rfl
theorem s_L_law_792 {a1 a2 a3 : Option Value} {st : List Value} {σ : am_H} {Q : Option Value → am_H → Prop} {x : Nat} : ax k_L_law 792 [some (.ref x), a1, a2, a3] st σ Q = ax k_L_law 793 [some (.ref x), a1, a2, a3] (.ref x :: st) σ Q := ru_loc (q := (_, _)) f_L_law_792 rfl rfl rfl
set_option maxRecDepth 100000 in
theorem f_L_law_793 : am_cd k_L_law 793 = some ((some .boolean), .iload_n 3, (0, 0, 0, 0, 0, .null)) := rfl
theorem s_L_law_793 {a0 a1 a2 : Option Value} {st : List Value} {σ : am_H} {Q : Option Value → am_H → Prop} {x : Int32} : ax k_L_law 793 [a0, a1, a2, some (.int x)] st σ Q = ax k_L_law 794 [a0, a1, a2, some (.int x)] (.int x :: st) σ Q := ru_loc (q := (_, _)) f_L_law_793 rfl rfl rfl
set_option maxRecDepth 100000 in
theorem f_L_law_794 : am_cd k_L_law 794 = some ((some .boolean), .iconst 2, (0, 0, 0, 0, 0, .null)) := rfl
theorem s_L_law_794 {ls : am_L} {st : List Value} {σ : am_H} {Q : Option Value → am_H → Prop} : ax k_L_law 794 ls st σ Q = ax k_L_law 795 ls (.int 2 :: st) σ Q := ru_iconst f_L_law_794 (by decide +kernel) rfl
set_option maxRecDepth 100000 in
theorem f_L_law_795 : am_cd k_L_law 795 = some ((some .boolean), .iadd, (0, 0, 0, 0, 0, .null)) := rfl
theorem s_L_law_795 {ls : am_L} {st : List Value} {σ : am_H} {Q : Option Value → am_H → Prop} {x y : Int32} : ax k_L_law 795 ls (.int y :: .int x :: st) σ Q = ax k_L_law 796 ls (.int (x + y) :: st) σ Q := ru_pure f_L_law_795 rfl rfl
set_option maxRecDepth 100000 in
theorem f_L_law_796 : am_cd k_L_law 796 = some ((some .boolean), .iaload, (0, 0, 0, 0, 0, .null)) := rfl
theorem s_L_law_796 {ls : am_L} {st : List Value} {σ : am_H} {Q : Option Value → am_H → Prop} {a : Nat} {j : Int32} : ax k_L_law 796 ls (.int j :: .ref a :: st) σ Q = ax_f (am_j σ a) (fun q => q.1 = 0 ∧ am_ix j q.2.1 ∧ ax k_L_law 797 ls (.int (q.2.2 j.toNatClampNeg) :: st) σ Q) := rv_iald f_L_law_796 rfl
set_option maxRecDepth 100000 in
theorem f_L_law_797 : am_cd k_L_law 797 = some ((some .boolean), .aload_n 0, (0, 0, 0, 0, 0, .null)) := rfl
theorem s_L_law_797 {a1 a2 a3 : Option Value} {st : List Value} {σ : am_H} {Q : Option Value → am_H → Prop} {x : Nat} : ax k_L_law 797 [some (.ref x), a1, a2, a3] st σ Q = ax k_L_law 798 [some (.ref x), a1, a2, a3] (.ref x :: st) σ Q := ru_loc (q := (_, _)) f_L_law_797 rfl rfl rfl
set_option maxRecDepth 100000 in
theorem f_L_law_798 : am_cd k_L_law 798 = some ((some .boolean), .iload_n 3, (0, 0, 0, 0, 0, .null)) := rfl
theorem s_L_law_798 {a0 a1 a2 : Option Value} {st : List Value} {σ : am_H} {Q : Option Value → am_H → Prop} {x : Int32} : ax k_L_law 798 [a0, a1, a2, some (.int x)] st σ Q = ax k_L_law 799 [a0, a1, a2, some (.int x)] (.int x :: st) σ Q := ru_loc (q := (_, _)) f_L_law_798 rfl rfl rfl
set_option maxRecDepth 100000 in
theorem f_L_law_799 : am_cd k_L_law 799 = some ((some .boolean), .iconst 3, (0, 0, 0, 0, 0, .null)) := rfl
theorem s_L_law_799 {ls : am_L} {st : List Value} {σ : am_H} {Q : Option Value → am_H → Prop} : ax k_L_law 799 ls st σ Q = ax k_L_law 800 ls (.int 3 :: st) σ Q := ru_iconst f_L_law_799 (by decide +kernel) rfl
set_option maxRecDepth 100000 in
theorem f_L_law_800 : am_cd k_L_law 800 = some ((some .boolean), .iadd, (0, 0, 0, 0, 0, .null)) := rfl
theorem s_L_law_800 {ls : am_L} {st : List Value} {σ : am_H} {Q : Option Value → am_H → Prop} {x y : Int32} : ax k_L_law 800 ls (.int y :: .int x :: st) σ Q = ax k_L_law 801 ls (.int (x + y) :: st) σ Q := ru_pure f_L_law_800 rfl rfl
set_option maxRecDepth 100000 in
theorem f_L_law_801 : am_cd k_L_law 801 = some ((some .boolean), .iaload, (0, 0, 0, 0, 0, .null)) := rfl
theorem s_L_law_801 {ls : am_L} {st : List Value} {σ : am_H} {Q : Option Value → am_H → Prop} {a : Nat} {j : Int32} : ax k_L_law 801 ls (.int j :: .ref a :: st) σ Q = ax_f (am_j σ a) (fun q => q.1 = 0 ∧ am_ix j q.2.1 ∧ ax k_L_law 802 ls (.int (q.2.2 j.toNatClampNeg) :: st) σ Q) := rv_iald f_L_law_801 rfl
set_option maxRecDepth 100000 in
theorem f_L_law_802 : am_cd k_L_law 802 = some ((some .boolean), .ifCond .eq 7, (809, 0, 0, 0, 0, .null)) := rfl
theorem s_L_law_802 {ls : am_L} {st : List Value} {σ : am_H} {Q : Option Value → am_H → Prop} {x : Int32} : ax k_L_law 802 ls (.int x :: st) σ Q = (if x = 0 then ax k_L_law 809 ls st σ Q else ax k_L_law 805 ls st σ Q) := (ru_if f_L_law_802 rfl).trans (ru_i_eq _ _ _ _)
set_option maxRecDepth 100000 in
theorem f_L_law_805 : am_cd k_L_law 805 = some ((some .boolean), .iconst 1, (0, 0, 0, 0, 0, .null)) := rfl
theorem s_L_law_805 {ls : am_L} {st : List Value} {σ : am_H} {Q : Option Value → am_H → Prop} : ax k_L_law 805 ls st σ Q = ax k_L_law 806 ls (.int 1 :: st) σ Q := ru_iconst f_L_law_805 (by decide +kernel) rfl
set_option maxRecDepth 100000 in
theorem f_L_law_806 : am_cd k_L_law 806 = some ((some .boolean), .goto 4, (810, 0, 0, 0, 0, .null)) := rfl
theorem s_L_law_806 {ls : am_L} {st : List Value} {σ : am_H} {Q : Option Value → am_H → Prop} : ax k_L_law 806 ls st σ Q = ax k_L_law 810 ls st σ Q := ru_goto f_L_law_806
set_option maxRecDepth 100000 in
theorem f_L_law_809 : am_cd k_L_law 809 = some ((some .boolean), .iconst 0, (0, 0, 0, 0, 0, .null)) := rfl
theorem s_L_law_809 {ls : am_L} {st : List Value} {σ : am_H} {Q : Option Value → am_H → Prop} : ax k_L_law 809 ls st σ Q = ax k_L_law 810 ls (.int 0 :: st) σ Q := ru_iconst f_L_law_809 (by decide +kernel) rfl
set_option maxRecDepth 100000 in
theorem f_L_law_810 : am_cd k_L_law 810 = some ((some .boolean), .invokevirtual 81, (84, 3, 508, 0, 10, .null)) := rfl
theorem s_L_law_810 {ls : am_L} {st : List Value} {σ : am_H} {Q : Option Value → am_H → Prop} {p0 : Int32} {p1 : Int32} {p2 : Int32} {b : Nat} (hi : am_is σ b 10) (h8 : am_s8 st) : ax k_L_law 810 ls (.int p2 :: .int p1 :: .int p0 :: .ref b :: st) σ Q = ax k_A_known 0 [some (.ref b), some (.int p0), some (.int p1), some (.int p2)] [] σ (ax_k k_L_law 813 ls st Q) := ru_vir (M' := rk_A_known) f_L_law_810 rfl rfl rfl rfl hi h8 rfl rfl rfl rfl rfl
set_option maxRecDepth 100000 in
theorem f_L_law_813 : am_cd k_L_law 813 = some ((some .boolean), .aload_n 2, (0, 0, 0, 0, 0, .null)) := rfl
theorem s_L_law_813 {a0 a1 a3 : Option Value} {st : List Value} {σ : am_H} {Q : Option Value → am_H → Prop} {x : Nat} : ax k_L_law 813 [a0, a1, some (.ref x), a3] st σ Q = ax k_L_law 814 [a0, a1, some (.ref x), a3] (.ref x :: st) σ Q := ru_loc (q := (_, _)) f_L_law_813 rfl rfl rfl
theorem s_L_law_813n {a0 a1 a3 : Option Value} {st : List Value} {σ : am_H} {Q : Option Value → am_H → Prop} : ax k_L_law 813 [a0, a1, some .null, a3] st σ Q = ax k_L_law 814 [a0, a1, some .null, a3] (.null :: st) σ Q := ru_loc (q := (_, _)) f_L_law_813 rfl rfl rfl
set_option maxRecDepth 100000 in
theorem f_L_law_814 : am_cd k_L_law 814 = some ((some .boolean), .aload_n 0, (0, 0, 0, 0, 0, .null)) := rfl
theorem s_L_law_814 {a1 a2 a3 : Option Value} {st : List Value} {σ : am_H} {Q : Option Value → am_H → Prop} {x : Nat} : ax k_L_law 814 [some (.ref x), a1, a2, a3] st σ Q = ax k_L_law 815 [some (.ref x), a1, a2, a3] (.ref x :: st) σ Q := ru_loc (q := (_, _)) f_L_law_814 rfl rfl rfl
set_option maxRecDepth 100000 in
theorem f_L_law_815 : am_cd k_L_law 815 = some ((some .boolean), .iload_n 3, (0, 0, 0, 0, 0, .null)) := rfl
theorem s_L_law_815 {a0 a1 a2 : Option Value} {st : List Value} {σ : am_H} {Q : Option Value → am_H → Prop} {x : Int32} : ax k_L_law 815 [a0, a1, a2, some (.int x)] st σ Q = ax k_L_law 816 [a0, a1, a2, some (.int x)] (.int x :: st) σ Q := ru_loc (q := (_, _)) f_L_law_815 rfl rfl rfl
set_option maxRecDepth 100000 in
theorem f_L_law_816 : am_cd k_L_law 816 = some ((some .boolean), .iconst 1, (0, 0, 0, 0, 0, .null)) := rfl
theorem s_L_law_816 {ls : am_L} {st : List Value} {σ : am_H} {Q : Option Value → am_H → Prop} : ax k_L_law 816 ls st σ Q = ax k_L_law 817 ls (.int 1 :: st) σ Q := ru_iconst f_L_law_816 (by decide +kernel) rfl
set_option maxRecDepth 100000 in
theorem f_L_law_817 : am_cd k_L_law 817 = some ((some .boolean), .iadd, (0, 0, 0, 0, 0, .null)) := rfl
theorem s_L_law_817 {ls : am_L} {st : List Value} {σ : am_H} {Q : Option Value → am_H → Prop} {x y : Int32} : ax k_L_law 817 ls (.int y :: .int x :: st) σ Q = ax k_L_law 818 ls (.int (x + y) :: st) σ Q := ru_pure f_L_law_817 rfl rfl
set_option maxRecDepth 100000 in
theorem f_L_law_818 : am_cd k_L_law 818 = some ((some .boolean), .iaload, (0, 0, 0, 0, 0, .null)) := rfl
theorem s_L_law_818 {ls : am_L} {st : List Value} {σ : am_H} {Q : Option Value → am_H → Prop} {a : Nat} {j : Int32} : ax k_L_law 818 ls (.int j :: .ref a :: st) σ Q = ax_f (am_j σ a) (fun q => q.1 = 0 ∧ am_ix j q.2.1 ∧ ax k_L_law 819 ls (.int (q.2.2 j.toNatClampNeg) :: st) σ Q) := rv_iald f_L_law_818 rfl
set_option maxRecDepth 100000 in
theorem f_L_law_819 : am_cd k_L_law 819 = some ((some .boolean), .aload_n 0, (0, 0, 0, 0, 0, .null)) := rfl
theorem s_L_law_819 {a1 a2 a3 : Option Value} {st : List Value} {σ : am_H} {Q : Option Value → am_H → Prop} {x : Nat} : ax k_L_law 819 [some (.ref x), a1, a2, a3] st σ Q = ax k_L_law 820 [some (.ref x), a1, a2, a3] (.ref x :: st) σ Q := ru_loc (q := (_, _)) f_L_law_819 rfl rfl rfl
set_option maxRecDepth 100000 in
theorem f_L_law_820 : am_cd k_L_law 820 = some ((some .boolean), .iload_n 3, (0, 0, 0, 0, 0, .null)) := rfl
theorem s_L_law_820 {a0 a1 a2 : Option Value} {st : List Value} {σ : am_H} {Q : Option Value → am_H → Prop} {x : Int32} : ax k_L_law 820 [a0, a1, a2, some (.int x)] st σ Q = ax k_L_law 821 [a0, a1, a2, some (.int x)] (.int x :: st) σ Q := ru_loc (q := (_, _)) f_L_law_820 rfl rfl rfl
set_option maxRecDepth 100000 in
theorem f_L_law_821 : am_cd k_L_law 821 = some ((some .boolean), .iconst 2, (0, 0, 0, 0, 0, .null)) := rfl
theorem s_L_law_821 {ls : am_L} {st : List Value} {σ : am_H} {Q : Option Value → am_H → Prop} : ax k_L_law 821 ls st σ Q = ax k_L_law 822 ls (.int 2 :: st) σ Q := ru_iconst f_L_law_821 (by decide +kernel) rfl
set_option maxRecDepth 100000 in
theorem f_L_law_822 : am_cd k_L_law 822 = some ((some .boolean), .iadd, (0, 0, 0, 0, 0, .null)) := rfl
theorem s_L_law_822 {ls : am_L} {st : List Value} {σ : am_H} {Q : Option Value → am_H → Prop} {x y : Int32} : ax k_L_law 822 ls (.int y :: .int x :: st) σ Q = ax k_L_law 823 ls (.int (x + y) :: st) σ Q := ru_pure f_L_law_822 rfl rfl
set_option maxRecDepth 100000 in
theorem f_L_law_823 : am_cd k_L_law 823 = some ((some .boolean), .iaload, (0, 0, 0, 0, 0, .null)) := rfl
theorem s_L_law_823 {ls : am_L} {st : List Value} {σ : am_H} {Q : Option Value → am_H → Prop} {a : Nat} {j : Int32} : ax k_L_law 823 ls (.int j :: .ref a :: st) σ Q = ax_f (am_j σ a) (fun q => q.1 = 0 ∧ am_ix j q.2.1 ∧ ax k_L_law 824 ls (.int (q.2.2 j.toNatClampNeg) :: st) σ Q) := rv_iald f_L_law_823 rfl
set_option maxRecDepth 100000 in
theorem f_L_law_824 : am_cd k_L_law 824 = some ((some .boolean), .aload_n 0, (0, 0, 0, 0, 0, .null)) := rfl
theorem s_L_law_824 {a1 a2 a3 : Option Value} {st : List Value} {σ : am_H} {Q : Option Value → am_H → Prop} {x : Nat} : ax k_L_law 824 [some (.ref x), a1, a2, a3] st σ Q = ax k_L_law 825 [some (.ref x), a1, a2, a3] (.ref x :: st) σ Q := ru_loc (q := (_, _)) f_L_law_824 rfl rfl rfl
set_option maxRecDepth 100000 in
theorem f_L_law_825 : am_cd k_L_law 825 = some ((some .boolean), .iload_n 3, (0, 0, 0, 0, 0, .null)) := rfl
theorem s_L_law_825 {a0 a1 a2 : Option Value} {st : List Value} {σ : am_H} {Q : Option Value → am_H → Prop} {x : Int32} : ax k_L_law 825 [a0, a1, a2, some (.int x)] st σ Q = ax k_L_law 826 [a0, a1, a2, some (.int x)] (.int x :: st) σ Q := ru_loc (q := (_, _)) f_L_law_825 rfl rfl rfl
set_option maxRecDepth 100000 in
theorem f_L_law_826 : am_cd k_L_law 826 = some ((some .boolean), .iconst 3, (0, 0, 0, 0, 0, .null)) := rfl
theorem s_L_law_826 {ls : am_L} {st : List Value} {σ : am_H} {Q : Option Value → am_H → Prop} : ax k_L_law 826 ls st σ Q = ax k_L_law 827 ls (.int 3 :: st) σ Q := ru_iconst f_L_law_826 (by decide +kernel) rfl
set_option maxRecDepth 100000 in
theorem f_L_law_827 : am_cd k_L_law 827 = some ((some .boolean), .iadd, (0, 0, 0, 0, 0, .null)) := rfl
theorem s_L_law_827 {ls : am_L} {st : List Value} {σ : am_H} {Q : Option Value → am_H → Prop} {x y : Int32} : ax k_L_law 827 ls (.int y :: .int x :: st) σ Q = ax k_L_law 828 ls (.int (x + y) :: st) σ Q := ru_pure f_L_law_827 rfl rfl
set_option maxRecDepth 100000 in
theorem f_L_law_828 : am_cd k_L_law 828 = some ((some .boolean), .iaload, (0, 0, 0, 0, 0, .null)) := rfl
theorem s_L_law_828 {ls : am_L} {st : List Value} {σ : am_H} {Q : Option Value → am_H → Prop} {a : Nat} {j : Int32} : ax k_L_law 828 ls (.int j :: .ref a :: st) σ Q = ax_f (am_j σ a) (fun q => q.1 = 0 ∧ am_ix j q.2.1 ∧ ax k_L_law 829 ls (.int (q.2.2 j.toNatClampNeg) :: st) σ Q) := rv_iald f_L_law_828 rfl
set_option maxRecDepth 100000 in
theorem f_L_law_829 : am_cd k_L_law 829 = some ((some .boolean), .ifCond .eq 7, (836, 0, 0, 0, 0, .null)) := rfl
theorem s_L_law_829 {ls : am_L} {st : List Value} {σ : am_H} {Q : Option Value → am_H → Prop} {x : Int32} : ax k_L_law 829 ls (.int x :: st) σ Q = (if x = 0 then ax k_L_law 836 ls st σ Q else ax k_L_law 832 ls st σ Q) := (ru_if f_L_law_829 rfl).trans (ru_i_eq _ _ _ _)
set_option maxRecDepth 100000 in
theorem f_L_law_832 : am_cd k_L_law 832 = some ((some .boolean), .iconst 1, (0, 0, 0, 0, 0, .null)) := rfl
theorem s_L_law_832 {ls : am_L} {st : List Value} {σ : am_H} {Q : Option Value → am_H → Prop} : ax k_L_law 832 ls st σ Q = ax k_L_law 833 ls (.int 1 :: st) σ Q := ru_iconst f_L_law_832 (by decide +kernel) rfl
set_option maxRecDepth 100000 in
theorem f_L_law_833 : am_cd k_L_law 833 = some ((some .boolean), .goto 4, (837, 0, 0, 0, 0, .null)) := rfl
theorem s_L_law_833 {ls : am_L} {st : List Value} {σ : am_H} {Q : Option Value → am_H → Prop} : ax k_L_law 833 ls st σ Q = ax k_L_law 837 ls st σ Q := ru_goto f_L_law_833
set_option maxRecDepth 100000 in
theorem f_L_law_836 : am_cd k_L_law 836 = some ((some .boolean), .iconst 0, (0, 0, 0, 0, 0, .null)) := rfl
theorem s_L_law_836 {ls : am_L} {st : List Value} {σ : am_H} {Q : Option Value → am_H → Prop} : ax k_L_law 836 ls st σ Q = ax k_L_law 837 ls (.int 0 :: st) σ Q := ru_iconst f_L_law_836 (by decide +kernel) rfl
set_option maxRecDepth 100000 in
theorem f_L_law_837 : am_cd k_L_law 837 = some ((some .boolean), .invokevirtual 84, (142, 3, 1215, 0, 11, .null)) := rfl
theorem s_L_law_837 {ls : am_L} {st : List Value} {σ : am_H} {Q : Option Value → am_H → Prop} {p0 : Int32} {p1 : Int32} {p2 : Int32} {b : Nat} (hi : am_is σ b 11) (h8 : am_s8 st) : ax k_L_law 837 ls (.int p2 :: .int p1 :: .int p0 :: .ref b :: st) σ Q = ax k_M_known 0 [some (.ref b), some (.int p0), some (.int p1), some (.int p2)] [] σ (ax_k k_L_law 840 ls st Q) := ru_vir (M' := rk_M_known) f_L_law_837 rfl rfl rfl rfl hi h8 rfl rfl rfl rfl rfl
set_option maxRecDepth 100000 in
theorem f_L_law_840 : am_cd k_L_law 840 = some ((some .boolean), .if_icmp .eq 550, (1390, 0, 0, 0, 0, .null)) := rfl
theorem s_L_law_840 {ls : am_L} {st : List Value} {σ : am_H} {Q : Option Value → am_H → Prop} {x y : Int32} : ax k_L_law 840 ls (.int y :: .int x :: st) σ Q = (if x = y then ax k_L_law 1390 ls st σ Q else ax k_L_law 843 ls st σ Q) := (ru_icmp f_L_law_840 rfl).trans (ru_i_eq _ _ _ _)
set_option maxRecDepth 100000 in
theorem f_L_law_843 : am_cd k_L_law 843 = some ((some .boolean), .iconst 0, (0, 0, 0, 0, 0, .null)) := rfl
theorem s_L_law_843 {ls : am_L} {st : List Value} {σ : am_H} {Q : Option Value → am_H → Prop} : ax k_L_law 843 ls st σ Q = ax k_L_law 844 ls (.int 0 :: st) σ Q := ru_iconst f_L_law_843 (by decide +kernel) rfl
set_option maxRecDepth 100000 in
theorem f_L_law_844 : am_cd k_L_law 844 = some ((some .boolean), .ireturn, (0, 0, 0, 0, 0, .null)) := rfl
theorem s_L_law_844 {ls : am_L} {σ : am_H} {Q : Option Value → am_H → Prop} {v : Int32} : ax k_L_law 844 ls ([.int v]) σ Q = (am_nar .boolean v = true ∧ Q (some (.int v)) σ) := ru_iret f_L_law_844
set_option maxRecDepth 100000 in
theorem f_L_law_845 : am_cd k_L_law 845 = some ((some .boolean), .aload_n 1, (0, 0, 0, 0, 0, .null)) := rfl
theorem s_L_law_845 {a0 a2 a3 : Option Value} {st : List Value} {σ : am_H} {Q : Option Value → am_H → Prop} {x : Nat} : ax k_L_law 845 [a0, some (.ref x), a2, a3] st σ Q = ax k_L_law 846 [a0, some (.ref x), a2, a3] (.ref x :: st) σ Q := ru_loc (q := (_, _)) f_L_law_845 rfl rfl rfl
theorem s_L_law_845n {a0 a2 a3 : Option Value} {st : List Value} {σ : am_H} {Q : Option Value → am_H → Prop} : ax k_L_law 845 [a0, some .null, a2, a3] st σ Q = ax k_L_law 846 [a0, some .null, a2, a3] (.null :: st) σ Q := ru_loc (q := (_, _)) f_L_law_845 rfl rfl rfl
set_option maxRecDepth 100000 in
theorem f_L_law_846 : am_cd k_L_law 846 = some ((some .boolean), .aload_n 0, (0, 0, 0, 0, 0, .null)) := rfl
theorem s_L_law_846 {a1 a2 a3 : Option Value} {st : List Value} {σ : am_H} {Q : Option Value → am_H → Prop} {x : Nat} : ax k_L_law 846 [some (.ref x), a1, a2, a3] st σ Q = ax k_L_law 847 [some (.ref x), a1, a2, a3] (.ref x :: st) σ Q := ru_loc (q := (_, _)) f_L_law_846 rfl rfl rfl
set_option maxRecDepth 100000 in
theorem f_L_law_847 : am_cd k_L_law 847 = some ((some .boolean), .iload_n 3, (0, 0, 0, 0, 0, .null)) := rfl
theorem s_L_law_847 {a0 a1 a2 : Option Value} {st : List Value} {σ : am_H} {Q : Option Value → am_H → Prop} {x : Int32} : ax k_L_law 847 [a0, a1, a2, some (.int x)] st σ Q = ax k_L_law 848 [a0, a1, a2, some (.int x)] (.int x :: st) σ Q := ru_loc (q := (_, _)) f_L_law_847 rfl rfl rfl
set_option maxRecDepth 100000 in
theorem f_L_law_848 : am_cd k_L_law 848 = some ((some .boolean), .iconst 1, (0, 0, 0, 0, 0, .null)) := rfl
theorem s_L_law_848 {ls : am_L} {st : List Value} {σ : am_H} {Q : Option Value → am_H → Prop} : ax k_L_law 848 ls st σ Q = ax k_L_law 849 ls (.int 1 :: st) σ Q := ru_iconst f_L_law_848 (by decide +kernel) rfl
set_option maxRecDepth 100000 in
theorem f_L_law_849 : am_cd k_L_law 849 = some ((some .boolean), .iadd, (0, 0, 0, 0, 0, .null)) := rfl
theorem s_L_law_849 {ls : am_L} {st : List Value} {σ : am_H} {Q : Option Value → am_H → Prop} {x y : Int32} : ax k_L_law 849 ls (.int y :: .int x :: st) σ Q = ax k_L_law 850 ls (.int (x + y) :: st) σ Q := ru_pure f_L_law_849 rfl rfl
set_option maxRecDepth 100000 in
theorem f_L_law_850 : am_cd k_L_law 850 = some ((some .boolean), .iaload, (0, 0, 0, 0, 0, .null)) := rfl
theorem s_L_law_850 {ls : am_L} {st : List Value} {σ : am_H} {Q : Option Value → am_H → Prop} {a : Nat} {j : Int32} : ax k_L_law 850 ls (.int j :: .ref a :: st) σ Q = ax_f (am_j σ a) (fun q => q.1 = 0 ∧ am_ix j q.2.1 ∧ ax k_L_law 851 ls (.int (q.2.2 j.toNatClampNeg) :: st) σ Q) := rv_iald f_L_law_850 rfl
set_option maxRecDepth 100000 in
theorem f_L_law_851 : am_cd k_L_law 851 = some ((some .boolean), .aload_n 0, (0, 0, 0, 0, 0, .null)) := rfl
theorem s_L_law_851 {a1 a2 a3 : Option Value} {st : List Value} {σ : am_H} {Q : Option Value → am_H → Prop} {x : Nat} : ax k_L_law 851 [some (.ref x), a1, a2, a3] st σ Q = ax k_L_law 852 [some (.ref x), a1, a2, a3] (.ref x :: st) σ Q := ru_loc (q := (_, _)) f_L_law_851 rfl rfl rfl
set_option maxRecDepth 100000 in
theorem f_L_law_852 : am_cd k_L_law 852 = some ((some .boolean), .iload_n 3, (0, 0, 0, 0, 0, .null)) := rfl
theorem s_L_law_852 {a0 a1 a2 : Option Value} {st : List Value} {σ : am_H} {Q : Option Value → am_H → Prop} {x : Int32} : ax k_L_law 852 [a0, a1, a2, some (.int x)] st σ Q = ax k_L_law 853 [a0, a1, a2, some (.int x)] (.int x :: st) σ Q := ru_loc (q := (_, _)) f_L_law_852 rfl rfl rfl
set_option maxRecDepth 100000 in
theorem f_L_law_853 : am_cd k_L_law 853 = some ((some .boolean), .iconst 2, (0, 0, 0, 0, 0, .null)) := rfl
theorem s_L_law_853 {ls : am_L} {st : List Value} {σ : am_H} {Q : Option Value → am_H → Prop} : ax k_L_law 853 ls st σ Q = ax k_L_law 854 ls (.int 2 :: st) σ Q := ru_iconst f_L_law_853 (by decide +kernel) rfl
set_option maxRecDepth 100000 in
theorem f_L_law_854 : am_cd k_L_law 854 = some ((some .boolean), .iadd, (0, 0, 0, 0, 0, .null)) := rfl
theorem s_L_law_854 {ls : am_L} {st : List Value} {σ : am_H} {Q : Option Value → am_H → Prop} {x y : Int32} : ax k_L_law 854 ls (.int y :: .int x :: st) σ Q = ax k_L_law 855 ls (.int (x + y) :: st) σ Q := ru_pure f_L_law_854 rfl rfl
set_option maxRecDepth 100000 in
theorem f_L_law_855 : am_cd k_L_law 855 = some ((some .boolean), .iaload, (0, 0, 0, 0, 0, .null)) := rfl
theorem s_L_law_855 {ls : am_L} {st : List Value} {σ : am_H} {Q : Option Value → am_H → Prop} {a : Nat} {j : Int32} : ax k_L_law 855 ls (.int j :: .ref a :: st) σ Q = ax_f (am_j σ a) (fun q => q.1 = 0 ∧ am_ix j q.2.1 ∧ ax k_L_law 856 ls (.int (q.2.2 j.toNatClampNeg) :: st) σ Q) := rv_iald f_L_law_855 rfl
set_option maxRecDepth 100000 in
theorem f_L_law_856 : am_cd k_L_law 856 = some ((some .boolean), .aload_n 0, (0, 0, 0, 0, 0, .null)) := rfl
theorem s_L_law_856 {a1 a2 a3 : Option Value} {st : List Value} {σ : am_H} {Q : Option Value → am_H → Prop} {x : Nat} : ax k_L_law 856 [some (.ref x), a1, a2, a3] st σ Q = ax k_L_law 857 [some (.ref x), a1, a2, a3] (.ref x :: st) σ Q := ru_loc (q := (_, _)) f_L_law_856 rfl rfl rfl
set_option maxRecDepth 100000 in
theorem f_L_law_857 : am_cd k_L_law 857 = some ((some .boolean), .iload_n 3, (0, 0, 0, 0, 0, .null)) := rfl
theorem s_L_law_857 {a0 a1 a2 : Option Value} {st : List Value} {σ : am_H} {Q : Option Value → am_H → Prop} {x : Int32} : ax k_L_law 857 [a0, a1, a2, some (.int x)] st σ Q = ax k_L_law 858 [a0, a1, a2, some (.int x)] (.int x :: st) σ Q := ru_loc (q := (_, _)) f_L_law_857 rfl rfl rfl
set_option maxRecDepth 100000 in
theorem f_L_law_858 : am_cd k_L_law 858 = some ((some .boolean), .iconst 3, (0, 0, 0, 0, 0, .null)) := rfl
theorem s_L_law_858 {ls : am_L} {st : List Value} {σ : am_H} {Q : Option Value → am_H → Prop} : ax k_L_law 858 ls st σ Q = ax k_L_law 859 ls (.int 3 :: st) σ Q := ru_iconst f_L_law_858 (by decide +kernel) rfl
set_option maxRecDepth 100000 in
theorem f_L_law_859 : am_cd k_L_law 859 = some ((some .boolean), .iadd, (0, 0, 0, 0, 0, .null)) := rfl
theorem s_L_law_859 {ls : am_L} {st : List Value} {σ : am_H} {Q : Option Value → am_H → Prop} {x y : Int32} : ax k_L_law 859 ls (.int y :: .int x :: st) σ Q = ax k_L_law 860 ls (.int (x + y) :: st) σ Q := ru_pure f_L_law_859 rfl rfl
set_option maxRecDepth 100000 in
theorem f_L_law_860 : am_cd k_L_law 860 = some ((some .boolean), .iaload, (0, 0, 0, 0, 0, .null)) := rfl
theorem s_L_law_860 {ls : am_L} {st : List Value} {σ : am_H} {Q : Option Value → am_H → Prop} {a : Nat} {j : Int32} : ax k_L_law 860 ls (.int j :: .ref a :: st) σ Q = ax_f (am_j σ a) (fun q => q.1 = 0 ∧ am_ix j q.2.1 ∧ ax k_L_law 861 ls (.int (q.2.2 j.toNatClampNeg) :: st) σ Q) := rv_iald f_L_law_860 rfl
set_option maxRecDepth 100000 in
theorem f_L_law_861 : am_cd k_L_law 861 = some ((some .boolean), .aload_n 0, (0, 0, 0, 0, 0, .null)) := rfl
theorem s_L_law_861 {a1 a2 a3 : Option Value} {st : List Value} {σ : am_H} {Q : Option Value → am_H → Prop} {x : Nat} : ax k_L_law 861 [some (.ref x), a1, a2, a3] st σ Q = ax k_L_law 862 [some (.ref x), a1, a2, a3] (.ref x :: st) σ Q := ru_loc (q := (_, _)) f_L_law_861 rfl rfl rfl
set_option maxRecDepth 100000 in
theorem f_L_law_862 : am_cd k_L_law 862 = some ((some .boolean), .iload_n 3, (0, 0, 0, 0, 0, .null)) := rfl
theorem s_L_law_862 {a0 a1 a2 : Option Value} {st : List Value} {σ : am_H} {Q : Option Value → am_H → Prop} {x : Int32} : ax k_L_law 862 [a0, a1, a2, some (.int x)] st σ Q = ax k_L_law 863 [a0, a1, a2, some (.int x)] (.int x :: st) σ Q := ru_loc (q := (_, _)) f_L_law_862 rfl rfl rfl
set_option maxRecDepth 100000 in
theorem f_L_law_863 : am_cd k_L_law 863 = some ((some .boolean), .iconst 4, (0, 0, 0, 0, 0, .null)) := rfl
theorem s_L_law_863 {ls : am_L} {st : List Value} {σ : am_H} {Q : Option Value → am_H → Prop} : ax k_L_law 863 ls st σ Q = ax k_L_law 864 ls (.int 4 :: st) σ Q := ru_iconst f_L_law_863 (by decide +kernel) rfl
set_option maxRecDepth 100000 in
theorem f_L_law_864 : am_cd k_L_law 864 = some ((some .boolean), .iadd, (0, 0, 0, 0, 0, .null)) := rfl
theorem s_L_law_864 {ls : am_L} {st : List Value} {σ : am_H} {Q : Option Value → am_H → Prop} {x y : Int32} : ax k_L_law 864 ls (.int y :: .int x :: st) σ Q = ax k_L_law 865 ls (.int (x + y) :: st) σ Q := ru_pure f_L_law_864 rfl rfl
set_option maxRecDepth 100000 in
theorem f_L_law_865 : am_cd k_L_law 865 = some ((some .boolean), .iaload, (0, 0, 0, 0, 0, .null)) := rfl
theorem s_L_law_865 {ls : am_L} {st : List Value} {σ : am_H} {Q : Option Value → am_H → Prop} {a : Nat} {j : Int32} : ax k_L_law 865 ls (.int j :: .ref a :: st) σ Q = ax_f (am_j σ a) (fun q => q.1 = 0 ∧ am_ix j q.2.1 ∧ ax k_L_law 866 ls (.int (q.2.2 j.toNatClampNeg) :: st) σ Q) := rv_iald f_L_law_865 rfl
set_option maxRecDepth 100000 in
theorem f_L_law_866 : am_cd k_L_law 866 = some ((some .boolean), .aload_n 0, (0, 0, 0, 0, 0, .null)) := rfl
theorem s_L_law_866 {a1 a2 a3 : Option Value} {st : List Value} {σ : am_H} {Q : Option Value → am_H → Prop} {x : Nat} : ax k_L_law 866 [some (.ref x), a1, a2, a3] st σ Q = ax k_L_law 867 [some (.ref x), a1, a2, a3] (.ref x :: st) σ Q := ru_loc (q := (_, _)) f_L_law_866 rfl rfl rfl
set_option maxRecDepth 100000 in
theorem f_L_law_867 : am_cd k_L_law 867 = some ((some .boolean), .iload_n 3, (0, 0, 0, 0, 0, .null)) := rfl
theorem s_L_law_867 {a0 a1 a2 : Option Value} {st : List Value} {σ : am_H} {Q : Option Value → am_H → Prop} {x : Int32} : ax k_L_law 867 [a0, a1, a2, some (.int x)] st σ Q = ax k_L_law 868 [a0, a1, a2, some (.int x)] (.int x :: st) σ Q := ru_loc (q := (_, _)) f_L_law_867 rfl rfl rfl
set_option maxRecDepth 100000 in
theorem f_L_law_868 : am_cd k_L_law 868 = some ((some .boolean), .iconst 5, (0, 0, 0, 0, 0, .null)) := rfl
theorem s_L_law_868 {ls : am_L} {st : List Value} {σ : am_H} {Q : Option Value → am_H → Prop} : ax k_L_law 868 ls st σ Q = ax k_L_law 869 ls (.int 5 :: st) σ Q := ru_iconst f_L_law_868 (by decide +kernel) rfl
set_option maxRecDepth 100000 in
theorem f_L_law_869 : am_cd k_L_law 869 = some ((some .boolean), .iadd, (0, 0, 0, 0, 0, .null)) := rfl
theorem s_L_law_869 {ls : am_L} {st : List Value} {σ : am_H} {Q : Option Value → am_H → Prop} {x y : Int32} : ax k_L_law 869 ls (.int y :: .int x :: st) σ Q = ax k_L_law 870 ls (.int (x + y) :: st) σ Q := ru_pure f_L_law_869 rfl rfl
set_option maxRecDepth 100000 in
theorem f_L_law_870 : am_cd k_L_law 870 = some ((some .boolean), .iaload, (0, 0, 0, 0, 0, .null)) := rfl
theorem s_L_law_870 {ls : am_L} {st : List Value} {σ : am_H} {Q : Option Value → am_H → Prop} {a : Nat} {j : Int32} : ax k_L_law 870 ls (.int j :: .ref a :: st) σ Q = ax_f (am_j σ a) (fun q => q.1 = 0 ∧ am_ix j q.2.1 ∧ ax k_L_law 871 ls (.int (q.2.2 j.toNatClampNeg) :: st) σ Q) := rv_iald f_L_law_870 rfl
set_option maxRecDepth 100000 in
theorem f_L_law_871 : am_cd k_L_law 871 = some ((some .boolean), .invokevirtual 85, (85, 5, 513, 0, 10, .null)) := rfl
theorem s_L_law_871 {ls : am_L} {st : List Value} {σ : am_H} {Q : Option Value → am_H → Prop} {p0 : Int32} {p1 : Int32} {p2 : Int32} {p3 : Int32} {p4 : Int32} {b : Nat} (hi : am_is σ b 10) (h8 : am_s8 st) : ax k_L_law 871 ls (.int p4 :: .int p3 :: .int p2 :: .int p1 :: .int p0 :: .ref b :: st) σ Q = ax k_A_feed 0 [some (.ref b), some (.int p0), some (.int p1), some (.int p2), some (.int p3), some (.int p4)] [] σ (ax_k k_L_law 874 ls st Q) := ru_vir (M' := rk_A_feed) f_L_law_871 rfl rfl rfl rfl hi h8 rfl rfl rfl rfl rfl
set_option maxRecDepth 100000 in
theorem f_L_law_874 : am_cd k_L_law 874 = some ((some .boolean), .aload_n 2, (0, 0, 0, 0, 0, .null)) := rfl
theorem s_L_law_874 {a0 a1 a3 : Option Value} {st : List Value} {σ : am_H} {Q : Option Value → am_H → Prop} {x : Nat} : ax k_L_law 874 [a0, a1, some (.ref x), a3] st σ Q = ax k_L_law 875 [a0, a1, some (.ref x), a3] (.ref x :: st) σ Q := ru_loc (q := (_, _)) f_L_law_874 rfl rfl rfl
theorem s_L_law_874n {a0 a1 a3 : Option Value} {st : List Value} {σ : am_H} {Q : Option Value → am_H → Prop} : ax k_L_law 874 [a0, a1, some .null, a3] st σ Q = ax k_L_law 875 [a0, a1, some .null, a3] (.null :: st) σ Q := ru_loc (q := (_, _)) f_L_law_874 rfl rfl rfl
set_option maxRecDepth 100000 in
theorem f_L_law_875 : am_cd k_L_law 875 = some ((some .boolean), .aload_n 0, (0, 0, 0, 0, 0, .null)) := rfl
theorem s_L_law_875 {a1 a2 a3 : Option Value} {st : List Value} {σ : am_H} {Q : Option Value → am_H → Prop} {x : Nat} : ax k_L_law 875 [some (.ref x), a1, a2, a3] st σ Q = ax k_L_law 876 [some (.ref x), a1, a2, a3] (.ref x :: st) σ Q := ru_loc (q := (_, _)) f_L_law_875 rfl rfl rfl
set_option maxRecDepth 100000 in
theorem f_L_law_876 : am_cd k_L_law 876 = some ((some .boolean), .iload_n 3, (0, 0, 0, 0, 0, .null)) := rfl
theorem s_L_law_876 {a0 a1 a2 : Option Value} {st : List Value} {σ : am_H} {Q : Option Value → am_H → Prop} {x : Int32} : ax k_L_law 876 [a0, a1, a2, some (.int x)] st σ Q = ax k_L_law 877 [a0, a1, a2, some (.int x)] (.int x :: st) σ Q := ru_loc (q := (_, _)) f_L_law_876 rfl rfl rfl
set_option maxRecDepth 100000 in
theorem f_L_law_877 : am_cd k_L_law 877 = some ((some .boolean), .iconst 1, (0, 0, 0, 0, 0, .null)) := rfl
theorem s_L_law_877 {ls : am_L} {st : List Value} {σ : am_H} {Q : Option Value → am_H → Prop} : ax k_L_law 877 ls st σ Q = ax k_L_law 878 ls (.int 1 :: st) σ Q := ru_iconst f_L_law_877 (by decide +kernel) rfl
set_option maxRecDepth 100000 in
theorem f_L_law_878 : am_cd k_L_law 878 = some ((some .boolean), .iadd, (0, 0, 0, 0, 0, .null)) := rfl
theorem s_L_law_878 {ls : am_L} {st : List Value} {σ : am_H} {Q : Option Value → am_H → Prop} {x y : Int32} : ax k_L_law 878 ls (.int y :: .int x :: st) σ Q = ax k_L_law 879 ls (.int (x + y) :: st) σ Q := ru_pure f_L_law_878 rfl rfl
set_option maxRecDepth 100000 in
theorem f_L_law_879 : am_cd k_L_law 879 = some ((some .boolean), .iaload, (0, 0, 0, 0, 0, .null)) := rfl
theorem s_L_law_879 {ls : am_L} {st : List Value} {σ : am_H} {Q : Option Value → am_H → Prop} {a : Nat} {j : Int32} : ax k_L_law 879 ls (.int j :: .ref a :: st) σ Q = ax_f (am_j σ a) (fun q => q.1 = 0 ∧ am_ix j q.2.1 ∧ ax k_L_law 880 ls (.int (q.2.2 j.toNatClampNeg) :: st) σ Q) := rv_iald f_L_law_879 rfl
set_option maxRecDepth 100000 in
theorem f_L_law_880 : am_cd k_L_law 880 = some ((some .boolean), .aload_n 0, (0, 0, 0, 0, 0, .null)) := rfl
theorem s_L_law_880 {a1 a2 a3 : Option Value} {st : List Value} {σ : am_H} {Q : Option Value → am_H → Prop} {x : Nat} : ax k_L_law 880 [some (.ref x), a1, a2, a3] st σ Q = ax k_L_law 881 [some (.ref x), a1, a2, a3] (.ref x :: st) σ Q := ru_loc (q := (_, _)) f_L_law_880 rfl rfl rfl
set_option maxRecDepth 100000 in
theorem f_L_law_881 : am_cd k_L_law 881 = some ((some .boolean), .iload_n 3, (0, 0, 0, 0, 0, .null)) := rfl
theorem s_L_law_881 {a0 a1 a2 : Option Value} {st : List Value} {σ : am_H} {Q : Option Value → am_H → Prop} {x : Int32} : ax k_L_law 881 [a0, a1, a2, some (.int x)] st σ Q = ax k_L_law 882 [a0, a1, a2, some (.int x)] (.int x :: st) σ Q := ru_loc (q := (_, _)) f_L_law_881 rfl rfl rfl
set_option maxRecDepth 100000 in
theorem f_L_law_882 : am_cd k_L_law 882 = some ((some .boolean), .iconst 2, (0, 0, 0, 0, 0, .null)) := rfl
theorem s_L_law_882 {ls : am_L} {st : List Value} {σ : am_H} {Q : Option Value → am_H → Prop} : ax k_L_law 882 ls st σ Q = ax k_L_law 883 ls (.int 2 :: st) σ Q := ru_iconst f_L_law_882 (by decide +kernel) rfl
set_option maxRecDepth 100000 in
theorem f_L_law_883 : am_cd k_L_law 883 = some ((some .boolean), .iadd, (0, 0, 0, 0, 0, .null)) := rfl
theorem s_L_law_883 {ls : am_L} {st : List Value} {σ : am_H} {Q : Option Value → am_H → Prop} {x y : Int32} : ax k_L_law 883 ls (.int y :: .int x :: st) σ Q = ax k_L_law 884 ls (.int (x + y) :: st) σ Q := ru_pure f_L_law_883 rfl rfl
set_option maxRecDepth 100000 in
theorem f_L_law_884 : am_cd k_L_law 884 = some ((some .boolean), .iaload, (0, 0, 0, 0, 0, .null)) := rfl
theorem s_L_law_884 {ls : am_L} {st : List Value} {σ : am_H} {Q : Option Value → am_H → Prop} {a : Nat} {j : Int32} : ax k_L_law 884 ls (.int j :: .ref a :: st) σ Q = ax_f (am_j σ a) (fun q => q.1 = 0 ∧ am_ix j q.2.1 ∧ ax k_L_law 885 ls (.int (q.2.2 j.toNatClampNeg) :: st) σ Q) := rv_iald f_L_law_884 rfl
set_option maxRecDepth 100000 in
theorem f_L_law_885 : am_cd k_L_law 885 = some ((some .boolean), .aload_n 0, (0, 0, 0, 0, 0, .null)) := rfl
theorem s_L_law_885 {a1 a2 a3 : Option Value} {st : List Value} {σ : am_H} {Q : Option Value → am_H → Prop} {x : Nat} : ax k_L_law 885 [some (.ref x), a1, a2, a3] st σ Q = ax k_L_law 886 [some (.ref x), a1, a2, a3] (.ref x :: st) σ Q := ru_loc (q := (_, _)) f_L_law_885 rfl rfl rfl
set_option maxRecDepth 100000 in
theorem f_L_law_886 : am_cd k_L_law 886 = some ((some .boolean), .iload_n 3, (0, 0, 0, 0, 0, .null)) := rfl
theorem s_L_law_886 {a0 a1 a2 : Option Value} {st : List Value} {σ : am_H} {Q : Option Value → am_H → Prop} {x : Int32} : ax k_L_law 886 [a0, a1, a2, some (.int x)] st σ Q = ax k_L_law 887 [a0, a1, a2, some (.int x)] (.int x :: st) σ Q := ru_loc (q := (_, _)) f_L_law_886 rfl rfl rfl
set_option maxRecDepth 100000 in
theorem f_L_law_887 : am_cd k_L_law 887 = some ((some .boolean), .iconst 3, (0, 0, 0, 0, 0, .null)) := rfl
theorem s_L_law_887 {ls : am_L} {st : List Value} {σ : am_H} {Q : Option Value → am_H → Prop} : ax k_L_law 887 ls st σ Q = ax k_L_law 888 ls (.int 3 :: st) σ Q := ru_iconst f_L_law_887 (by decide +kernel) rfl
set_option maxRecDepth 100000 in
theorem f_L_law_888 : am_cd k_L_law 888 = some ((some .boolean), .iadd, (0, 0, 0, 0, 0, .null)) := rfl
theorem s_L_law_888 {ls : am_L} {st : List Value} {σ : am_H} {Q : Option Value → am_H → Prop} {x y : Int32} : ax k_L_law 888 ls (.int y :: .int x :: st) σ Q = ax k_L_law 889 ls (.int (x + y) :: st) σ Q := ru_pure f_L_law_888 rfl rfl
set_option maxRecDepth 100000 in
theorem f_L_law_889 : am_cd k_L_law 889 = some ((some .boolean), .iaload, (0, 0, 0, 0, 0, .null)) := rfl
theorem s_L_law_889 {ls : am_L} {st : List Value} {σ : am_H} {Q : Option Value → am_H → Prop} {a : Nat} {j : Int32} : ax k_L_law 889 ls (.int j :: .ref a :: st) σ Q = ax_f (am_j σ a) (fun q => q.1 = 0 ∧ am_ix j q.2.1 ∧ ax k_L_law 890 ls (.int (q.2.2 j.toNatClampNeg) :: st) σ Q) := rv_iald f_L_law_889 rfl
set_option maxRecDepth 100000 in
theorem f_L_law_890 : am_cd k_L_law 890 = some ((some .boolean), .aload_n 0, (0, 0, 0, 0, 0, .null)) := rfl
theorem s_L_law_890 {a1 a2 a3 : Option Value} {st : List Value} {σ : am_H} {Q : Option Value → am_H → Prop} {x : Nat} : ax k_L_law 890 [some (.ref x), a1, a2, a3] st σ Q = ax k_L_law 891 [some (.ref x), a1, a2, a3] (.ref x :: st) σ Q := ru_loc (q := (_, _)) f_L_law_890 rfl rfl rfl
set_option maxRecDepth 100000 in
theorem f_L_law_891 : am_cd k_L_law 891 = some ((some .boolean), .iload_n 3, (0, 0, 0, 0, 0, .null)) := rfl
theorem s_L_law_891 {a0 a1 a2 : Option Value} {st : List Value} {σ : am_H} {Q : Option Value → am_H → Prop} {x : Int32} : ax k_L_law 891 [a0, a1, a2, some (.int x)] st σ Q = ax k_L_law 892 [a0, a1, a2, some (.int x)] (.int x :: st) σ Q := ru_loc (q := (_, _)) f_L_law_891 rfl rfl rfl
set_option maxRecDepth 100000 in
theorem f_L_law_892 : am_cd k_L_law 892 = some ((some .boolean), .iconst 4, (0, 0, 0, 0, 0, .null)) := rfl
theorem s_L_law_892 {ls : am_L} {st : List Value} {σ : am_H} {Q : Option Value → am_H → Prop} : ax k_L_law 892 ls st σ Q = ax k_L_law 893 ls (.int 4 :: st) σ Q := ru_iconst f_L_law_892 (by decide +kernel) rfl
set_option maxRecDepth 100000 in
theorem f_L_law_893 : am_cd k_L_law 893 = some ((some .boolean), .iadd, (0, 0, 0, 0, 0, .null)) := rfl
theorem s_L_law_893 {ls : am_L} {st : List Value} {σ : am_H} {Q : Option Value → am_H → Prop} {x y : Int32} : ax k_L_law 893 ls (.int y :: .int x :: st) σ Q = ax k_L_law 894 ls (.int (x + y) :: st) σ Q := ru_pure f_L_law_893 rfl rfl
set_option maxRecDepth 100000 in
theorem f_L_law_894 : am_cd k_L_law 894 = some ((some .boolean), .iaload, (0, 0, 0, 0, 0, .null)) := rfl
theorem s_L_law_894 {ls : am_L} {st : List Value} {σ : am_H} {Q : Option Value → am_H → Prop} {a : Nat} {j : Int32} : ax k_L_law 894 ls (.int j :: .ref a :: st) σ Q = ax_f (am_j σ a) (fun q => q.1 = 0 ∧ am_ix j q.2.1 ∧ ax k_L_law 895 ls (.int (q.2.2 j.toNatClampNeg) :: st) σ Q) := rv_iald f_L_law_894 rfl
set_option maxRecDepth 100000 in
theorem f_L_law_895 : am_cd k_L_law 895 = some ((some .boolean), .aload_n 0, (0, 0, 0, 0, 0, .null)) := rfl
theorem s_L_law_895 {a1 a2 a3 : Option Value} {st : List Value} {σ : am_H} {Q : Option Value → am_H → Prop} {x : Nat} : ax k_L_law 895 [some (.ref x), a1, a2, a3] st σ Q = ax k_L_law 896 [some (.ref x), a1, a2, a3] (.ref x :: st) σ Q := ru_loc (q := (_, _)) f_L_law_895 rfl rfl rfl
set_option maxRecDepth 100000 in
theorem f_L_law_896 : am_cd k_L_law 896 = some ((some .boolean), .iload_n 3, (0, 0, 0, 0, 0, .null)) := rfl
theorem s_L_law_896 {a0 a1 a2 : Option Value} {st : List Value} {σ : am_H} {Q : Option Value → am_H → Prop} {x : Int32} : ax k_L_law 896 [a0, a1, a2, some (.int x)] st σ Q = ax k_L_law 897 [a0, a1, a2, some (.int x)] (.int x :: st) σ Q := ru_loc (q := (_, _)) f_L_law_896 rfl rfl rfl
set_option maxRecDepth 100000 in
theorem f_L_law_897 : am_cd k_L_law 897 = some ((some .boolean), .iconst 5, (0, 0, 0, 0, 0, .null)) := rfl
theorem s_L_law_897 {ls : am_L} {st : List Value} {σ : am_H} {Q : Option Value → am_H → Prop} : ax k_L_law 897 ls st σ Q = ax k_L_law 898 ls (.int 5 :: st) σ Q := ru_iconst f_L_law_897 (by decide +kernel) rfl
set_option maxRecDepth 100000 in
theorem f_L_law_898 : am_cd k_L_law 898 = some ((some .boolean), .iadd, (0, 0, 0, 0, 0, .null)) := rfl
theorem s_L_law_898 {ls : am_L} {st : List Value} {σ : am_H} {Q : Option Value → am_H → Prop} {x y : Int32} : ax k_L_law 898 ls (.int y :: .int x :: st) σ Q = ax k_L_law 899 ls (.int (x + y) :: st) σ Q := ru_pure f_L_law_898 rfl rfl
set_option maxRecDepth 100000 in
theorem f_L_law_899 : am_cd k_L_law 899 = some ((some .boolean), .iaload, (0, 0, 0, 0, 0, .null)) := rfl
theorem s_L_law_899 {ls : am_L} {st : List Value} {σ : am_H} {Q : Option Value → am_H → Prop} {a : Nat} {j : Int32} : ax k_L_law 899 ls (.int j :: .ref a :: st) σ Q = ax_f (am_j σ a) (fun q => q.1 = 0 ∧ am_ix j q.2.1 ∧ ax k_L_law 900 ls (.int (q.2.2 j.toNatClampNeg) :: st) σ Q) := rv_iald f_L_law_899 rfl
set_option maxRecDepth 100000 in
theorem f_L_law_900 : am_cd k_L_law 900 = some ((some .boolean), .invokevirtual 89, (144, 5, 1227, 0, 11, .null)) := rfl
theorem s_L_law_900 {ls : am_L} {st : List Value} {σ : am_H} {Q : Option Value → am_H → Prop} {p0 : Int32} {p1 : Int32} {p2 : Int32} {p3 : Int32} {p4 : Int32} {b : Nat} (hi : am_is σ b 11) (h8 : am_s8 st) : ax k_L_law 900 ls (.int p4 :: .int p3 :: .int p2 :: .int p1 :: .int p0 :: .ref b :: st) σ Q = ax k_M_feed 0 [some (.ref b), some (.int p0), some (.int p1), some (.int p2), some (.int p3), some (.int p4)] [] σ (ax_k k_L_law 903 ls st Q) := ru_vir (M' := rk_M_feed) f_L_law_900 rfl rfl rfl rfl hi h8 rfl rfl rfl rfl rfl
set_option maxRecDepth 100000 in
theorem f_L_law_903 : am_cd k_L_law 903 = some ((some .boolean), .if_icmp .eq 487, (1390, 0, 0, 0, 0, .null)) := rfl
theorem s_L_law_903 {ls : am_L} {st : List Value} {σ : am_H} {Q : Option Value → am_H → Prop} {x y : Int32} : ax k_L_law 903 ls (.int y :: .int x :: st) σ Q = (if x = y then ax k_L_law 1390 ls st σ Q else ax k_L_law 906 ls st σ Q) := (ru_icmp f_L_law_903 rfl).trans (ru_i_eq _ _ _ _)
set_option maxRecDepth 100000 in
theorem f_L_law_906 : am_cd k_L_law 906 = some ((some .boolean), .iconst 0, (0, 0, 0, 0, 0, .null)) := rfl
theorem s_L_law_906 {ls : am_L} {st : List Value} {σ : am_H} {Q : Option Value → am_H → Prop} : ax k_L_law 906 ls st σ Q = ax k_L_law 907 ls (.int 0 :: st) σ Q := ru_iconst f_L_law_906 (by decide +kernel) rfl
set_option maxRecDepth 100000 in
theorem f_L_law_907 : am_cd k_L_law 907 = some ((some .boolean), .ireturn, (0, 0, 0, 0, 0, .null)) := rfl
theorem s_L_law_907 {ls : am_L} {σ : am_H} {Q : Option Value → am_H → Prop} {v : Int32} : ax k_L_law 907 ls ([.int v]) σ Q = (am_nar .boolean v = true ∧ Q (some (.int v)) σ) := ru_iret f_L_law_907
set_option maxRecDepth 100000 in
theorem f_L_law_908 : am_cd k_L_law 908 = some ((some .boolean), .aload_n 1, (0, 0, 0, 0, 0, .null)) := rfl
theorem s_L_law_908 {a0 a2 a3 : Option Value} {st : List Value} {σ : am_H} {Q : Option Value → am_H → Prop} {x : Nat} : ax k_L_law 908 [a0, some (.ref x), a2, a3] st σ Q = ax k_L_law 909 [a0, some (.ref x), a2, a3] (.ref x :: st) σ Q := ru_loc (q := (_, _)) f_L_law_908 rfl rfl rfl
theorem s_L_law_908n {a0 a2 a3 : Option Value} {st : List Value} {σ : am_H} {Q : Option Value → am_H → Prop} : ax k_L_law 908 [a0, some .null, a2, a3] st σ Q = ax k_L_law 909 [a0, some .null, a2, a3] (.null :: st) σ Q := ru_loc (q := (_, _)) f_L_law_908 rfl rfl rfl
set_option maxRecDepth 100000 in
theorem f_L_law_909 : am_cd k_L_law 909 = some ((some .boolean), .aload_n 0, (0, 0, 0, 0, 0, .null)) := rfl
theorem s_L_law_909 {a1 a2 a3 : Option Value} {st : List Value} {σ : am_H} {Q : Option Value → am_H → Prop} {x : Nat} : ax k_L_law 909 [some (.ref x), a1, a2, a3] st σ Q = ax k_L_law 910 [some (.ref x), a1, a2, a3] (.ref x :: st) σ Q := ru_loc (q := (_, _)) f_L_law_909 rfl rfl rfl
set_option maxRecDepth 100000 in
theorem f_L_law_910 : am_cd k_L_law 910 = some ((some .boolean), .iload_n 3, (0, 0, 0, 0, 0, .null)) := rfl
theorem s_L_law_910 {a0 a1 a2 : Option Value} {st : List Value} {σ : am_H} {Q : Option Value → am_H → Prop} {x : Int32} : ax k_L_law 910 [a0, a1, a2, some (.int x)] st σ Q = ax k_L_law 911 [a0, a1, a2, some (.int x)] (.int x :: st) σ Q := ru_loc (q := (_, _)) f_L_law_910 rfl rfl rfl
set_option maxRecDepth 100000 in
theorem f_L_law_911 : am_cd k_L_law 911 = some ((some .boolean), .iconst 1, (0, 0, 0, 0, 0, .null)) := rfl
theorem s_L_law_911 {ls : am_L} {st : List Value} {σ : am_H} {Q : Option Value → am_H → Prop} : ax k_L_law 911 ls st σ Q = ax k_L_law 912 ls (.int 1 :: st) σ Q := ru_iconst f_L_law_911 (by decide +kernel) rfl
set_option maxRecDepth 100000 in
theorem f_L_law_912 : am_cd k_L_law 912 = some ((some .boolean), .iadd, (0, 0, 0, 0, 0, .null)) := rfl
theorem s_L_law_912 {ls : am_L} {st : List Value} {σ : am_H} {Q : Option Value → am_H → Prop} {x y : Int32} : ax k_L_law 912 ls (.int y :: .int x :: st) σ Q = ax k_L_law 913 ls (.int (x + y) :: st) σ Q := ru_pure f_L_law_912 rfl rfl
set_option maxRecDepth 100000 in
theorem f_L_law_913 : am_cd k_L_law 913 = some ((some .boolean), .iaload, (0, 0, 0, 0, 0, .null)) := rfl
theorem s_L_law_913 {ls : am_L} {st : List Value} {σ : am_H} {Q : Option Value → am_H → Prop} {a : Nat} {j : Int32} : ax k_L_law 913 ls (.int j :: .ref a :: st) σ Q = ax_f (am_j σ a) (fun q => q.1 = 0 ∧ am_ix j q.2.1 ∧ ax k_L_law 914 ls (.int (q.2.2 j.toNatClampNeg) :: st) σ Q) := rv_iald f_L_law_913 rfl
set_option maxRecDepth 100000 in
theorem f_L_law_914 : am_cd k_L_law 914 = some ((some .boolean), .invokevirtual 90, (86, 1, 521, 0, 10, .null)) := rfl
theorem s_L_law_914 {ls : am_L} {st : List Value} {σ : am_H} {Q : Option Value → am_H → Prop} {p0 : Int32} {b : Nat} (hi : am_is σ b 10) (h8 : am_s8 st) : ax k_L_law 914 ls (.int p0 :: .ref b :: st) σ Q = ax k_A_end 0 [some (.ref b), some (.int p0)] [] σ (ax_k k_L_law 917 ls st Q) := ru_vir (M' := rk_A_end) f_L_law_914 rfl rfl rfl rfl hi h8 rfl rfl rfl rfl rfl
set_option maxRecDepth 100000 in
theorem f_L_law_917 : am_cd k_L_law 917 = some ((some .boolean), .aload_n 2, (0, 0, 0, 0, 0, .null)) := rfl
theorem s_L_law_917 {a0 a1 a3 : Option Value} {st : List Value} {σ : am_H} {Q : Option Value → am_H → Prop} {x : Nat} : ax k_L_law 917 [a0, a1, some (.ref x), a3] st σ Q = ax k_L_law 918 [a0, a1, some (.ref x), a3] (.ref x :: st) σ Q := ru_loc (q := (_, _)) f_L_law_917 rfl rfl rfl
theorem s_L_law_917n {a0 a1 a3 : Option Value} {st : List Value} {σ : am_H} {Q : Option Value → am_H → Prop} : ax k_L_law 917 [a0, a1, some .null, a3] st σ Q = ax k_L_law 918 [a0, a1, some .null, a3] (.null :: st) σ Q := ru_loc (q := (_, _)) f_L_law_917 rfl rfl rfl
set_option maxRecDepth 100000 in
theorem f_L_law_918 : am_cd k_L_law 918 = some ((some .boolean), .aload_n 0, (0, 0, 0, 0, 0, .null)) := rfl
theorem s_L_law_918 {a1 a2 a3 : Option Value} {st : List Value} {σ : am_H} {Q : Option Value → am_H → Prop} {x : Nat} : ax k_L_law 918 [some (.ref x), a1, a2, a3] st σ Q = ax k_L_law 919 [some (.ref x), a1, a2, a3] (.ref x :: st) σ Q := ru_loc (q := (_, _)) f_L_law_918 rfl rfl rfl
set_option maxRecDepth 100000 in
theorem f_L_law_919 : am_cd k_L_law 919 = some ((some .boolean), .iload_n 3, (0, 0, 0, 0, 0, .null)) := rfl
theorem s_L_law_919 {a0 a1 a2 : Option Value} {st : List Value} {σ : am_H} {Q : Option Value → am_H → Prop} {x : Int32} : ax k_L_law 919 [a0, a1, a2, some (.int x)] st σ Q = ax k_L_law 920 [a0, a1, a2, some (.int x)] (.int x :: st) σ Q := ru_loc (q := (_, _)) f_L_law_919 rfl rfl rfl
set_option maxRecDepth 100000 in
theorem f_L_law_920 : am_cd k_L_law 920 = some ((some .boolean), .iconst 1, (0, 0, 0, 0, 0, .null)) := rfl
theorem s_L_law_920 {ls : am_L} {st : List Value} {σ : am_H} {Q : Option Value → am_H → Prop} : ax k_L_law 920 ls st σ Q = ax k_L_law 921 ls (.int 1 :: st) σ Q := ru_iconst f_L_law_920 (by decide +kernel) rfl
set_option maxRecDepth 100000 in
theorem f_L_law_921 : am_cd k_L_law 921 = some ((some .boolean), .iadd, (0, 0, 0, 0, 0, .null)) := rfl
theorem s_L_law_921 {ls : am_L} {st : List Value} {σ : am_H} {Q : Option Value → am_H → Prop} {x y : Int32} : ax k_L_law 921 ls (.int y :: .int x :: st) σ Q = ax k_L_law 922 ls (.int (x + y) :: st) σ Q := ru_pure f_L_law_921 rfl rfl
set_option maxRecDepth 100000 in
theorem f_L_law_922 : am_cd k_L_law 922 = some ((some .boolean), .iaload, (0, 0, 0, 0, 0, .null)) := rfl
theorem s_L_law_922 {ls : am_L} {st : List Value} {σ : am_H} {Q : Option Value → am_H → Prop} {a : Nat} {j : Int32} : ax k_L_law 922 ls (.int j :: .ref a :: st) σ Q = ax_f (am_j σ a) (fun q => q.1 = 0 ∧ am_ix j q.2.1 ∧ ax k_L_law 923 ls (.int (q.2.2 j.toNatClampNeg) :: st) σ Q) := rv_iald f_L_law_922 rfl
set_option maxRecDepth 100000 in
theorem f_L_law_923 : am_cd k_L_law 923 = some ((some .boolean), .invokevirtual 93, (145, 1, 1235, 0, 11, .null)) := rfl
theorem s_L_law_923 {ls : am_L} {st : List Value} {σ : am_H} {Q : Option Value → am_H → Prop} {p0 : Int32} {b : Nat} (hi : am_is σ b 11) (h8 : am_s8 st) : ax k_L_law 923 ls (.int p0 :: .ref b :: st) σ Q = ax k_M_end 0 [some (.ref b), some (.int p0)] [] σ (ax_k k_L_law 926 ls st Q) := ru_vir (M' := rk_M_end) f_L_law_923 rfl rfl rfl rfl hi h8 rfl rfl rfl rfl rfl
set_option maxRecDepth 100000 in
theorem f_L_law_926 : am_cd k_L_law 926 = some ((some .boolean), .if_icmp .eq 464, (1390, 0, 0, 0, 0, .null)) := rfl
theorem s_L_law_926 {ls : am_L} {st : List Value} {σ : am_H} {Q : Option Value → am_H → Prop} {x y : Int32} : ax k_L_law 926 ls (.int y :: .int x :: st) σ Q = (if x = y then ax k_L_law 1390 ls st σ Q else ax k_L_law 929 ls st σ Q) := (ru_icmp f_L_law_926 rfl).trans (ru_i_eq _ _ _ _)
set_option maxRecDepth 100000 in
theorem f_L_law_929 : am_cd k_L_law 929 = some ((some .boolean), .iconst 0, (0, 0, 0, 0, 0, .null)) := rfl
theorem s_L_law_929 {ls : am_L} {st : List Value} {σ : am_H} {Q : Option Value → am_H → Prop} : ax k_L_law 929 ls st σ Q = ax k_L_law 930 ls (.int 0 :: st) σ Q := ru_iconst f_L_law_929 (by decide +kernel) rfl
set_option maxRecDepth 100000 in
theorem f_L_law_930 : am_cd k_L_law 930 = some ((some .boolean), .ireturn, (0, 0, 0, 0, 0, .null)) := rfl
theorem s_L_law_930 {ls : am_L} {σ : am_H} {Q : Option Value → am_H → Prop} {v : Int32} : ax k_L_law 930 ls ([.int v]) σ Q = (am_nar .boolean v = true ∧ Q (some (.int v)) σ) := ru_iret f_L_law_930
set_option maxRecDepth 100000 in
theorem f_L_law_931 : am_cd k_L_law 931 = some ((some .boolean), .aload_n 1, (0, 0, 0, 0, 0, .null)) := rfl
theorem s_L_law_931 {a0 a2 a3 : Option Value} {st : List Value} {σ : am_H} {Q : Option Value → am_H → Prop} {x : Nat} : ax k_L_law 931 [a0, some (.ref x), a2, a3] st σ Q = ax k_L_law 932 [a0, some (.ref x), a2, a3] (.ref x :: st) σ Q := ru_loc (q := (_, _)) f_L_law_931 rfl rfl rfl
theorem s_L_law_931n {a0 a2 a3 : Option Value} {st : List Value} {σ : am_H} {Q : Option Value → am_H → Prop} : ax k_L_law 931 [a0, some .null, a2, a3] st σ Q = ax k_L_law 932 [a0, some .null, a2, a3] (.null :: st) σ Q := ru_loc (q := (_, _)) f_L_law_931 rfl rfl rfl
set_option maxRecDepth 100000 in
theorem f_L_law_932 : am_cd k_L_law 932 = some ((some .boolean), .aload_n 0, (0, 0, 0, 0, 0, .null)) := rfl
theorem s_L_law_932 {a1 a2 a3 : Option Value} {st : List Value} {σ : am_H} {Q : Option Value → am_H → Prop} {x : Nat} : ax k_L_law 932 [some (.ref x), a1, a2, a3] st σ Q = ax k_L_law 933 [some (.ref x), a1, a2, a3] (.ref x :: st) σ Q := ru_loc (q := (_, _)) f_L_law_932 rfl rfl rfl
set_option maxRecDepth 100000 in
theorem f_L_law_933 : am_cd k_L_law 933 = some ((some .boolean), .iload_n 3, (0, 0, 0, 0, 0, .null)) := rfl
theorem s_L_law_933 {a0 a1 a2 : Option Value} {st : List Value} {σ : am_H} {Q : Option Value → am_H → Prop} {x : Int32} : ax k_L_law 933 [a0, a1, a2, some (.int x)] st σ Q = ax k_L_law 934 [a0, a1, a2, some (.int x)] (.int x :: st) σ Q := ru_loc (q := (_, _)) f_L_law_933 rfl rfl rfl
set_option maxRecDepth 100000 in
theorem f_L_law_934 : am_cd k_L_law 934 = some ((some .boolean), .iconst 1, (0, 0, 0, 0, 0, .null)) := rfl
theorem s_L_law_934 {ls : am_L} {st : List Value} {σ : am_H} {Q : Option Value → am_H → Prop} : ax k_L_law 934 ls st σ Q = ax k_L_law 935 ls (.int 1 :: st) σ Q := ru_iconst f_L_law_934 (by decide +kernel) rfl
set_option maxRecDepth 100000 in
theorem f_L_law_935 : am_cd k_L_law 935 = some ((some .boolean), .iadd, (0, 0, 0, 0, 0, .null)) := rfl
theorem s_L_law_935 {ls : am_L} {st : List Value} {σ : am_H} {Q : Option Value → am_H → Prop} {x y : Int32} : ax k_L_law 935 ls (.int y :: .int x :: st) σ Q = ax k_L_law 936 ls (.int (x + y) :: st) σ Q := ru_pure f_L_law_935 rfl rfl
set_option maxRecDepth 100000 in
theorem f_L_law_936 : am_cd k_L_law 936 = some ((some .boolean), .iaload, (0, 0, 0, 0, 0, .null)) := rfl
theorem s_L_law_936 {ls : am_L} {st : List Value} {σ : am_H} {Q : Option Value → am_H → Prop} {a : Nat} {j : Int32} : ax k_L_law 936 ls (.int j :: .ref a :: st) σ Q = ax_f (am_j σ a) (fun q => q.1 = 0 ∧ am_ix j q.2.1 ∧ ax k_L_law 937 ls (.int (q.2.2 j.toNatClampNeg) :: st) σ Q) := rv_iald f_L_law_936 rfl
set_option maxRecDepth 100000 in
theorem f_L_law_937 : am_cd k_L_law 937 = some ((some .boolean), .invokevirtual 94, (87, 1, 525, 0, 10, .null)) := rfl
theorem s_L_law_937 {ls : am_L} {st : List Value} {σ : am_H} {Q : Option Value → am_H → Prop} {p0 : Int32} {b : Nat} (hi : am_is σ b 10) (h8 : am_s8 st) : ax k_L_law 937 ls (.int p0 :: .ref b :: st) σ Q = ax k_A_text 0 [some (.ref b), some (.int p0), none] [] σ (ax_k k_L_law 940 ls st Q) := ru_vir (M' := rk_A_text) f_L_law_937 rfl rfl rfl rfl hi h8 rfl rfl rfl rfl rfl
set_option maxRecDepth 100000 in
theorem f_L_law_940 : am_cd k_L_law 940 = some ((some .boolean), .aload_n 2, (0, 0, 0, 0, 0, .null)) := rfl
theorem s_L_law_940 {a0 a1 a3 : Option Value} {st : List Value} {σ : am_H} {Q : Option Value → am_H → Prop} {x : Nat} : ax k_L_law 940 [a0, a1, some (.ref x), a3] st σ Q = ax k_L_law 941 [a0, a1, some (.ref x), a3] (.ref x :: st) σ Q := ru_loc (q := (_, _)) f_L_law_940 rfl rfl rfl
theorem s_L_law_940n {a0 a1 a3 : Option Value} {st : List Value} {σ : am_H} {Q : Option Value → am_H → Prop} : ax k_L_law 940 [a0, a1, some .null, a3] st σ Q = ax k_L_law 941 [a0, a1, some .null, a3] (.null :: st) σ Q := ru_loc (q := (_, _)) f_L_law_940 rfl rfl rfl
set_option maxRecDepth 100000 in
theorem f_L_law_941 : am_cd k_L_law 941 = some ((some .boolean), .aload_n 0, (0, 0, 0, 0, 0, .null)) := rfl
theorem s_L_law_941 {a1 a2 a3 : Option Value} {st : List Value} {σ : am_H} {Q : Option Value → am_H → Prop} {x : Nat} : ax k_L_law 941 [some (.ref x), a1, a2, a3] st σ Q = ax k_L_law 942 [some (.ref x), a1, a2, a3] (.ref x :: st) σ Q := ru_loc (q := (_, _)) f_L_law_941 rfl rfl rfl
set_option maxRecDepth 100000 in
theorem f_L_law_942 : am_cd k_L_law 942 = some ((some .boolean), .iload_n 3, (0, 0, 0, 0, 0, .null)) := rfl
theorem s_L_law_942 {a0 a1 a2 : Option Value} {st : List Value} {σ : am_H} {Q : Option Value → am_H → Prop} {x : Int32} : ax k_L_law 942 [a0, a1, a2, some (.int x)] st σ Q = ax k_L_law 943 [a0, a1, a2, some (.int x)] (.int x :: st) σ Q := ru_loc (q := (_, _)) f_L_law_942 rfl rfl rfl
set_option maxRecDepth 100000 in
theorem f_L_law_943 : am_cd k_L_law 943 = some ((some .boolean), .iconst 1, (0, 0, 0, 0, 0, .null)) := rfl
theorem s_L_law_943 {ls : am_L} {st : List Value} {σ : am_H} {Q : Option Value → am_H → Prop} : ax k_L_law 943 ls st σ Q = ax k_L_law 944 ls (.int 1 :: st) σ Q := ru_iconst f_L_law_943 (by decide +kernel) rfl
set_option maxRecDepth 100000 in
theorem f_L_law_944 : am_cd k_L_law 944 = some ((some .boolean), .iadd, (0, 0, 0, 0, 0, .null)) := rfl
theorem s_L_law_944 {ls : am_L} {st : List Value} {σ : am_H} {Q : Option Value → am_H → Prop} {x y : Int32} : ax k_L_law 944 ls (.int y :: .int x :: st) σ Q = ax k_L_law 945 ls (.int (x + y) :: st) σ Q := ru_pure f_L_law_944 rfl rfl
set_option maxRecDepth 100000 in
theorem f_L_law_945 : am_cd k_L_law 945 = some ((some .boolean), .iaload, (0, 0, 0, 0, 0, .null)) := rfl
theorem s_L_law_945 {ls : am_L} {st : List Value} {σ : am_H} {Q : Option Value → am_H → Prop} {a : Nat} {j : Int32} : ax k_L_law 945 ls (.int j :: .ref a :: st) σ Q = ax_f (am_j σ a) (fun q => q.1 = 0 ∧ am_ix j q.2.1 ∧ ax k_L_law 946 ls (.int (q.2.2 j.toNatClampNeg) :: st) σ Q) := rv_iald f_L_law_945 rfl
set_option maxRecDepth 100000 in
theorem f_L_law_946 : am_cd k_L_law 946 = some ((some .boolean), .invokevirtual 97, (156, 1, 1239, 0, 11, .null)) := rfl
theorem s_L_law_946 {ls : am_L} {st : List Value} {σ : am_H} {Q : Option Value → am_H → Prop} {p0 : Int32} {b : Nat} (hi : am_is σ b 11) (h8 : am_s8 st) : ax k_L_law 946 ls (.int p0 :: .ref b :: st) σ Q = ax k_M_text 0 [some (.ref b), some (.int p0), none] [] σ (ax_k k_L_law 949 ls st Q) := ru_vir (M' := rk_M_text) f_L_law_946 rfl rfl rfl rfl hi h8 rfl rfl rfl rfl rfl
set_option maxRecDepth 100000 in
theorem f_L_law_949 : am_cd k_L_law 949 = some ((some .boolean), .if_icmp .eq 441, (1390, 0, 0, 0, 0, .null)) := rfl
theorem s_L_law_949 {ls : am_L} {st : List Value} {σ : am_H} {Q : Option Value → am_H → Prop} {x y : Int32} : ax k_L_law 949 ls (.int y :: .int x :: st) σ Q = (if x = y then ax k_L_law 1390 ls st σ Q else ax k_L_law 952 ls st σ Q) := (ru_icmp f_L_law_949 rfl).trans (ru_i_eq _ _ _ _)
set_option maxRecDepth 100000 in
theorem f_L_law_952 : am_cd k_L_law 952 = some ((some .boolean), .iconst 0, (0, 0, 0, 0, 0, .null)) := rfl
theorem s_L_law_952 {ls : am_L} {st : List Value} {σ : am_H} {Q : Option Value → am_H → Prop} : ax k_L_law 952 ls st σ Q = ax k_L_law 953 ls (.int 0 :: st) σ Q := ru_iconst f_L_law_952 (by decide +kernel) rfl
set_option maxRecDepth 100000 in
theorem f_L_law_953 : am_cd k_L_law 953 = some ((some .boolean), .ireturn, (0, 0, 0, 0, 0, .null)) := rfl
theorem s_L_law_953 {ls : am_L} {σ : am_H} {Q : Option Value → am_H → Prop} {v : Int32} : ax k_L_law 953 ls ([.int v]) σ Q = (am_nar .boolean v = true ∧ Q (some (.int v)) σ) := ru_iret f_L_law_953
set_option maxRecDepth 100000 in
theorem f_L_law_954 : am_cd k_L_law 954 = some ((some .boolean), .aload_n 1, (0, 0, 0, 0, 0, .null)) := rfl
theorem s_L_law_954 {a0 a2 a3 : Option Value} {st : List Value} {σ : am_H} {Q : Option Value → am_H → Prop} {x : Nat} : ax k_L_law 954 [a0, some (.ref x), a2, a3] st σ Q = ax k_L_law 955 [a0, some (.ref x), a2, a3] (.ref x :: st) σ Q := ru_loc (q := (_, _)) f_L_law_954 rfl rfl rfl
theorem s_L_law_954n {a0 a2 a3 : Option Value} {st : List Value} {σ : am_H} {Q : Option Value → am_H → Prop} : ax k_L_law 954 [a0, some .null, a2, a3] st σ Q = ax k_L_law 955 [a0, some .null, a2, a3] (.null :: st) σ Q := ru_loc (q := (_, _)) f_L_law_954 rfl rfl rfl
set_option maxRecDepth 100000 in
theorem f_L_law_955 : am_cd k_L_law 955 = some ((some .boolean), .aload_n 0, (0, 0, 0, 0, 0, .null)) := rfl
theorem s_L_law_955 {a1 a2 a3 : Option Value} {st : List Value} {σ : am_H} {Q : Option Value → am_H → Prop} {x : Nat} : ax k_L_law 955 [some (.ref x), a1, a2, a3] st σ Q = ax k_L_law 956 [some (.ref x), a1, a2, a3] (.ref x :: st) σ Q := ru_loc (q := (_, _)) f_L_law_955 rfl rfl rfl
set_option maxRecDepth 100000 in
theorem f_L_law_956 : am_cd k_L_law 956 = some ((some .boolean), .iload_n 3, (0, 0, 0, 0, 0, .null)) := rfl
theorem s_L_law_956 {a0 a1 a2 : Option Value} {st : List Value} {σ : am_H} {Q : Option Value → am_H → Prop} {x : Int32} : ax k_L_law 956 [a0, a1, a2, some (.int x)] st σ Q = ax k_L_law 957 [a0, a1, a2, some (.int x)] (.int x :: st) σ Q := ru_loc (q := (_, _)) f_L_law_956 rfl rfl rfl
set_option maxRecDepth 100000 in
theorem f_L_law_957 : am_cd k_L_law 957 = some ((some .boolean), .iconst 1, (0, 0, 0, 0, 0, .null)) := rfl
theorem s_L_law_957 {ls : am_L} {st : List Value} {σ : am_H} {Q : Option Value → am_H → Prop} : ax k_L_law 957 ls st σ Q = ax k_L_law 958 ls (.int 1 :: st) σ Q := ru_iconst f_L_law_957 (by decide +kernel) rfl
set_option maxRecDepth 100000 in
theorem f_L_law_958 : am_cd k_L_law 958 = some ((some .boolean), .iadd, (0, 0, 0, 0, 0, .null)) := rfl
theorem s_L_law_958 {ls : am_L} {st : List Value} {σ : am_H} {Q : Option Value → am_H → Prop} {x y : Int32} : ax k_L_law 958 ls (.int y :: .int x :: st) σ Q = ax k_L_law 959 ls (.int (x + y) :: st) σ Q := ru_pure f_L_law_958 rfl rfl
set_option maxRecDepth 100000 in
theorem f_L_law_959 : am_cd k_L_law 959 = some ((some .boolean), .iaload, (0, 0, 0, 0, 0, .null)) := rfl
theorem s_L_law_959 {ls : am_L} {st : List Value} {σ : am_H} {Q : Option Value → am_H → Prop} {a : Nat} {j : Int32} : ax k_L_law 959 ls (.int j :: .ref a :: st) σ Q = ax_f (am_j σ a) (fun q => q.1 = 0 ∧ am_ix j q.2.1 ∧ ax k_L_law 960 ls (.int (q.2.2 j.toNatClampNeg) :: st) σ Q) := rv_iald f_L_law_959 rfl
set_option maxRecDepth 100000 in
theorem f_L_law_960 : am_cd k_L_law 960 = some ((some .boolean), .invokevirtual 98, (88, 1, 715, 0, 10, .null)) := rfl
theorem s_L_law_960 {ls : am_L} {st : List Value} {σ : am_H} {Q : Option Value → am_H → Prop} {p0 : Int32} {b : Nat} (hi : am_is σ b 10) (h8 : am_s8 st) : ax k_L_law 960 ls (.int p0 :: .ref b :: st) σ Q = ax k_A_fault 0 [some (.ref b), some (.int p0)] [] σ (ax_k k_L_law 963 ls st Q) := ru_vir (M' := rk_A_fault) f_L_law_960 rfl rfl rfl rfl hi h8 rfl rfl rfl rfl rfl
set_option maxRecDepth 100000 in
theorem f_L_law_963 : am_cd k_L_law 963 = some ((some .boolean), .aload_n 2, (0, 0, 0, 0, 0, .null)) := rfl
theorem s_L_law_963 {a0 a1 a3 : Option Value} {st : List Value} {σ : am_H} {Q : Option Value → am_H → Prop} {x : Nat} : ax k_L_law 963 [a0, a1, some (.ref x), a3] st σ Q = ax k_L_law 964 [a0, a1, some (.ref x), a3] (.ref x :: st) σ Q := ru_loc (q := (_, _)) f_L_law_963 rfl rfl rfl
theorem s_L_law_963n {a0 a1 a3 : Option Value} {st : List Value} {σ : am_H} {Q : Option Value → am_H → Prop} : ax k_L_law 963 [a0, a1, some .null, a3] st σ Q = ax k_L_law 964 [a0, a1, some .null, a3] (.null :: st) σ Q := ru_loc (q := (_, _)) f_L_law_963 rfl rfl rfl
set_option maxRecDepth 100000 in
theorem f_L_law_964 : am_cd k_L_law 964 = some ((some .boolean), .aload_n 0, (0, 0, 0, 0, 0, .null)) := rfl
theorem s_L_law_964 {a1 a2 a3 : Option Value} {st : List Value} {σ : am_H} {Q : Option Value → am_H → Prop} {x : Nat} : ax k_L_law 964 [some (.ref x), a1, a2, a3] st σ Q = ax k_L_law 965 [some (.ref x), a1, a2, a3] (.ref x :: st) σ Q := ru_loc (q := (_, _)) f_L_law_964 rfl rfl rfl
set_option maxRecDepth 100000 in
theorem f_L_law_965 : am_cd k_L_law 965 = some ((some .boolean), .iload_n 3, (0, 0, 0, 0, 0, .null)) := rfl
theorem s_L_law_965 {a0 a1 a2 : Option Value} {st : List Value} {σ : am_H} {Q : Option Value → am_H → Prop} {x : Int32} : ax k_L_law 965 [a0, a1, a2, some (.int x)] st σ Q = ax k_L_law 966 [a0, a1, a2, some (.int x)] (.int x :: st) σ Q := ru_loc (q := (_, _)) f_L_law_965 rfl rfl rfl
set_option maxRecDepth 100000 in
theorem f_L_law_966 : am_cd k_L_law 966 = some ((some .boolean), .iconst 1, (0, 0, 0, 0, 0, .null)) := rfl
theorem s_L_law_966 {ls : am_L} {st : List Value} {σ : am_H} {Q : Option Value → am_H → Prop} : ax k_L_law 966 ls st σ Q = ax k_L_law 967 ls (.int 1 :: st) σ Q := ru_iconst f_L_law_966 (by decide +kernel) rfl
set_option maxRecDepth 100000 in
theorem f_L_law_967 : am_cd k_L_law 967 = some ((some .boolean), .iadd, (0, 0, 0, 0, 0, .null)) := rfl
theorem s_L_law_967 {ls : am_L} {st : List Value} {σ : am_H} {Q : Option Value → am_H → Prop} {x y : Int32} : ax k_L_law 967 ls (.int y :: .int x :: st) σ Q = ax k_L_law 968 ls (.int (x + y) :: st) σ Q := ru_pure f_L_law_967 rfl rfl
set_option maxRecDepth 100000 in
theorem f_L_law_968 : am_cd k_L_law 968 = some ((some .boolean), .iaload, (0, 0, 0, 0, 0, .null)) := rfl
theorem s_L_law_968 {ls : am_L} {st : List Value} {σ : am_H} {Q : Option Value → am_H → Prop} {a : Nat} {j : Int32} : ax k_L_law 968 ls (.int j :: .ref a :: st) σ Q = ax_f (am_j σ a) (fun q => q.1 = 0 ∧ am_ix j q.2.1 ∧ ax k_L_law 969 ls (.int (q.2.2 j.toNatClampNeg) :: st) σ Q) := rv_iald f_L_law_968 rfl
set_option maxRecDepth 100000 in
theorem f_L_law_969 : am_cd k_L_law 969 = some ((some .boolean), .invokevirtual 101, (157, 1, 1280, 0, 11, .null)) := rfl
theorem s_L_law_969 {ls : am_L} {st : List Value} {σ : am_H} {Q : Option Value → am_H → Prop} {p0 : Int32} {b : Nat} (hi : am_is σ b 11) (h8 : am_s8 st) : ax k_L_law 969 ls (.int p0 :: .ref b :: st) σ Q = ax k_M_fault 0 [some (.ref b), some (.int p0)] [] σ (ax_k k_L_law 972 ls st Q) := ru_vir (M' := rk_M_fault) f_L_law_969 rfl rfl rfl rfl hi h8 rfl rfl rfl rfl rfl
set_option maxRecDepth 100000 in
theorem f_L_law_972 : am_cd k_L_law 972 = some ((some .boolean), .if_icmp .eq 418, (1390, 0, 0, 0, 0, .null)) := rfl
theorem s_L_law_972 {ls : am_L} {st : List Value} {σ : am_H} {Q : Option Value → am_H → Prop} {x y : Int32} : ax k_L_law 972 ls (.int y :: .int x :: st) σ Q = (if x = y then ax k_L_law 1390 ls st σ Q else ax k_L_law 975 ls st σ Q) := (ru_icmp f_L_law_972 rfl).trans (ru_i_eq _ _ _ _)
set_option maxRecDepth 100000 in
theorem f_L_law_975 : am_cd k_L_law 975 = some ((some .boolean), .iconst 0, (0, 0, 0, 0, 0, .null)) := rfl
theorem s_L_law_975 {ls : am_L} {st : List Value} {σ : am_H} {Q : Option Value → am_H → Prop} : ax k_L_law 975 ls st σ Q = ax k_L_law 976 ls (.int 0 :: st) σ Q := ru_iconst f_L_law_975 (by decide +kernel) rfl
set_option maxRecDepth 100000 in
theorem f_L_law_976 : am_cd k_L_law 976 = some ((some .boolean), .ireturn, (0, 0, 0, 0, 0, .null)) := rfl
theorem s_L_law_976 {ls : am_L} {σ : am_H} {Q : Option Value → am_H → Prop} {v : Int32} : ax k_L_law 976 ls ([.int v]) σ Q = (am_nar .boolean v = true ∧ Q (some (.int v)) σ) := ru_iret f_L_law_976
set_option maxRecDepth 100000 in
theorem f_L_law_977 : am_cd k_L_law 977 = some ((some .boolean), .aload_n 1, (0, 0, 0, 0, 0, .null)) := rfl
theorem s_L_law_977 {a0 a2 a3 : Option Value} {st : List Value} {σ : am_H} {Q : Option Value → am_H → Prop} {x : Nat} : ax k_L_law 977 [a0, some (.ref x), a2, a3] st σ Q = ax k_L_law 978 [a0, some (.ref x), a2, a3] (.ref x :: st) σ Q := ru_loc (q := (_, _)) f_L_law_977 rfl rfl rfl
theorem s_L_law_977n {a0 a2 a3 : Option Value} {st : List Value} {σ : am_H} {Q : Option Value → am_H → Prop} : ax k_L_law 977 [a0, some .null, a2, a3] st σ Q = ax k_L_law 978 [a0, some .null, a2, a3] (.null :: st) σ Q := ru_loc (q := (_, _)) f_L_law_977 rfl rfl rfl
set_option maxRecDepth 100000 in
theorem f_L_law_978 : am_cd k_L_law 978 = some ((some .boolean), .aload_n 0, (0, 0, 0, 0, 0, .null)) := rfl
theorem s_L_law_978 {a1 a2 a3 : Option Value} {st : List Value} {σ : am_H} {Q : Option Value → am_H → Prop} {x : Nat} : ax k_L_law 978 [some (.ref x), a1, a2, a3] st σ Q = ax k_L_law 979 [some (.ref x), a1, a2, a3] (.ref x :: st) σ Q := ru_loc (q := (_, _)) f_L_law_978 rfl rfl rfl
set_option maxRecDepth 100000 in
theorem f_L_law_979 : am_cd k_L_law 979 = some ((some .boolean), .iload_n 3, (0, 0, 0, 0, 0, .null)) := rfl
theorem s_L_law_979 {a0 a1 a2 : Option Value} {st : List Value} {σ : am_H} {Q : Option Value → am_H → Prop} {x : Int32} : ax k_L_law 979 [a0, a1, a2, some (.int x)] st σ Q = ax k_L_law 980 [a0, a1, a2, some (.int x)] (.int x :: st) σ Q := ru_loc (q := (_, _)) f_L_law_979 rfl rfl rfl
set_option maxRecDepth 100000 in
theorem f_L_law_980 : am_cd k_L_law 980 = some ((some .boolean), .iconst 1, (0, 0, 0, 0, 0, .null)) := rfl
theorem s_L_law_980 {ls : am_L} {st : List Value} {σ : am_H} {Q : Option Value → am_H → Prop} : ax k_L_law 980 ls st σ Q = ax k_L_law 981 ls (.int 1 :: st) σ Q := ru_iconst f_L_law_980 (by decide +kernel) rfl
set_option maxRecDepth 100000 in
theorem f_L_law_981 : am_cd k_L_law 981 = some ((some .boolean), .iadd, (0, 0, 0, 0, 0, .null)) := rfl
theorem s_L_law_981 {ls : am_L} {st : List Value} {σ : am_H} {Q : Option Value → am_H → Prop} {x y : Int32} : ax k_L_law 981 ls (.int y :: .int x :: st) σ Q = ax k_L_law 982 ls (.int (x + y) :: st) σ Q := ru_pure f_L_law_981 rfl rfl
set_option maxRecDepth 100000 in
theorem f_L_law_982 : am_cd k_L_law 982 = some ((some .boolean), .iaload, (0, 0, 0, 0, 0, .null)) := rfl
theorem s_L_law_982 {ls : am_L} {st : List Value} {σ : am_H} {Q : Option Value → am_H → Prop} {a : Nat} {j : Int32} : ax k_L_law 982 ls (.int j :: .ref a :: st) σ Q = ax_f (am_j σ a) (fun q => q.1 = 0 ∧ am_ix j q.2.1 ∧ ax k_L_law 983 ls (.int (q.2.2 j.toNatClampNeg) :: st) σ Q) := rv_iald f_L_law_982 rfl
set_option maxRecDepth 100000 in
theorem f_L_law_983 : am_cd k_L_law 983 = some ((some .boolean), .aload_n 0, (0, 0, 0, 0, 0, .null)) := rfl
theorem s_L_law_983 {a1 a2 a3 : Option Value} {st : List Value} {σ : am_H} {Q : Option Value → am_H → Prop} {x : Nat} : ax k_L_law 983 [some (.ref x), a1, a2, a3] st σ Q = ax k_L_law 984 [some (.ref x), a1, a2, a3] (.ref x :: st) σ Q := ru_loc (q := (_, _)) f_L_law_983 rfl rfl rfl
set_option maxRecDepth 100000 in
theorem f_L_law_984 : am_cd k_L_law 984 = some ((some .boolean), .iload_n 3, (0, 0, 0, 0, 0, .null)) := rfl
theorem s_L_law_984 {a0 a1 a2 : Option Value} {st : List Value} {σ : am_H} {Q : Option Value → am_H → Prop} {x : Int32} : ax k_L_law 984 [a0, a1, a2, some (.int x)] st σ Q = ax k_L_law 985 [a0, a1, a2, some (.int x)] (.int x :: st) σ Q := ru_loc (q := (_, _)) f_L_law_984 rfl rfl rfl
set_option maxRecDepth 100000 in
theorem f_L_law_985 : am_cd k_L_law 985 = some ((some .boolean), .iconst 2, (0, 0, 0, 0, 0, .null)) := rfl
theorem s_L_law_985 {ls : am_L} {st : List Value} {σ : am_H} {Q : Option Value → am_H → Prop} : ax k_L_law 985 ls st σ Q = ax k_L_law 986 ls (.int 2 :: st) σ Q := ru_iconst f_L_law_985 (by decide +kernel) rfl
set_option maxRecDepth 100000 in
theorem f_L_law_986 : am_cd k_L_law 986 = some ((some .boolean), .iadd, (0, 0, 0, 0, 0, .null)) := rfl
theorem s_L_law_986 {ls : am_L} {st : List Value} {σ : am_H} {Q : Option Value → am_H → Prop} {x y : Int32} : ax k_L_law 986 ls (.int y :: .int x :: st) σ Q = ax k_L_law 987 ls (.int (x + y) :: st) σ Q := ru_pure f_L_law_986 rfl rfl
set_option maxRecDepth 100000 in
theorem f_L_law_987 : am_cd k_L_law 987 = some ((some .boolean), .iaload, (0, 0, 0, 0, 0, .null)) := rfl
theorem s_L_law_987 {ls : am_L} {st : List Value} {σ : am_H} {Q : Option Value → am_H → Prop} {a : Nat} {j : Int32} : ax k_L_law 987 ls (.int j :: .ref a :: st) σ Q = ax_f (am_j σ a) (fun q => q.1 = 0 ∧ am_ix j q.2.1 ∧ ax k_L_law 988 ls (.int (q.2.2 j.toNatClampNeg) :: st) σ Q) := rv_iald f_L_law_987 rfl
set_option maxRecDepth 100000 in
theorem f_L_law_988 : am_cd k_L_law 988 = some ((some .boolean), .aload_n 0, (0, 0, 0, 0, 0, .null)) := rfl
theorem s_L_law_988 {a1 a2 a3 : Option Value} {st : List Value} {σ : am_H} {Q : Option Value → am_H → Prop} {x : Nat} : ax k_L_law 988 [some (.ref x), a1, a2, a3] st σ Q = ax k_L_law 989 [some (.ref x), a1, a2, a3] (.ref x :: st) σ Q := ru_loc (q := (_, _)) f_L_law_988 rfl rfl rfl
set_option maxRecDepth 100000 in
theorem f_L_law_989 : am_cd k_L_law 989 = some ((some .boolean), .iload_n 3, (0, 0, 0, 0, 0, .null)) := rfl
theorem s_L_law_989 {a0 a1 a2 : Option Value} {st : List Value} {σ : am_H} {Q : Option Value → am_H → Prop} {x : Int32} : ax k_L_law 989 [a0, a1, a2, some (.int x)] st σ Q = ax k_L_law 990 [a0, a1, a2, some (.int x)] (.int x :: st) σ Q := ru_loc (q := (_, _)) f_L_law_989 rfl rfl rfl
set_option maxRecDepth 100000 in
theorem f_L_law_990 : am_cd k_L_law 990 = some ((some .boolean), .iconst 3, (0, 0, 0, 0, 0, .null)) := rfl
theorem s_L_law_990 {ls : am_L} {st : List Value} {σ : am_H} {Q : Option Value → am_H → Prop} : ax k_L_law 990 ls st σ Q = ax k_L_law 991 ls (.int 3 :: st) σ Q := ru_iconst f_L_law_990 (by decide +kernel) rfl
set_option maxRecDepth 100000 in
theorem f_L_law_991 : am_cd k_L_law 991 = some ((some .boolean), .iadd, (0, 0, 0, 0, 0, .null)) := rfl
theorem s_L_law_991 {ls : am_L} {st : List Value} {σ : am_H} {Q : Option Value → am_H → Prop} {x y : Int32} : ax k_L_law 991 ls (.int y :: .int x :: st) σ Q = ax k_L_law 992 ls (.int (x + y) :: st) σ Q := ru_pure f_L_law_991 rfl rfl
set_option maxRecDepth 100000 in
theorem f_L_law_992 : am_cd k_L_law 992 = some ((some .boolean), .iaload, (0, 0, 0, 0, 0, .null)) := rfl
theorem s_L_law_992 {ls : am_L} {st : List Value} {σ : am_H} {Q : Option Value → am_H → Prop} {a : Nat} {j : Int32} : ax k_L_law 992 ls (.int j :: .ref a :: st) σ Q = ax_f (am_j σ a) (fun q => q.1 = 0 ∧ am_ix j q.2.1 ∧ ax k_L_law 993 ls (.int (q.2.2 j.toNatClampNeg) :: st) σ Q) := rv_iald f_L_law_992 rfl
set_option maxRecDepth 100000 in
theorem f_L_law_993 : am_cd k_L_law 993 = some ((some .boolean), .aload_n 0, (0, 0, 0, 0, 0, .null)) := rfl
theorem s_L_law_993 {a1 a2 a3 : Option Value} {st : List Value} {σ : am_H} {Q : Option Value → am_H → Prop} {x : Nat} : ax k_L_law 993 [some (.ref x), a1, a2, a3] st σ Q = ax k_L_law 994 [some (.ref x), a1, a2, a3] (.ref x :: st) σ Q := ru_loc (q := (_, _)) f_L_law_993 rfl rfl rfl
set_option maxRecDepth 100000 in
theorem f_L_law_994 : am_cd k_L_law 994 = some ((some .boolean), .iload_n 3, (0, 0, 0, 0, 0, .null)) := rfl
theorem s_L_law_994 {a0 a1 a2 : Option Value} {st : List Value} {σ : am_H} {Q : Option Value → am_H → Prop} {x : Int32} : ax k_L_law 994 [a0, a1, a2, some (.int x)] st σ Q = ax k_L_law 995 [a0, a1, a2, some (.int x)] (.int x :: st) σ Q := ru_loc (q := (_, _)) f_L_law_994 rfl rfl rfl
set_option maxRecDepth 100000 in
theorem f_L_law_995 : am_cd k_L_law 995 = some ((some .boolean), .iconst 4, (0, 0, 0, 0, 0, .null)) := rfl
theorem s_L_law_995 {ls : am_L} {st : List Value} {σ : am_H} {Q : Option Value → am_H → Prop} : ax k_L_law 995 ls st σ Q = ax k_L_law 996 ls (.int 4 :: st) σ Q := ru_iconst f_L_law_995 (by decide +kernel) rfl
set_option maxRecDepth 100000 in
theorem f_L_law_996 : am_cd k_L_law 996 = some ((some .boolean), .iadd, (0, 0, 0, 0, 0, .null)) := rfl
theorem s_L_law_996 {ls : am_L} {st : List Value} {σ : am_H} {Q : Option Value → am_H → Prop} {x y : Int32} : ax k_L_law 996 ls (.int y :: .int x :: st) σ Q = ax k_L_law 997 ls (.int (x + y) :: st) σ Q := ru_pure f_L_law_996 rfl rfl
set_option maxRecDepth 100000 in
theorem f_L_law_997 : am_cd k_L_law 997 = some ((some .boolean), .iaload, (0, 0, 0, 0, 0, .null)) := rfl
theorem s_L_law_997 {ls : am_L} {st : List Value} {σ : am_H} {Q : Option Value → am_H → Prop} {a : Nat} {j : Int32} : ax k_L_law 997 ls (.int j :: .ref a :: st) σ Q = ax_f (am_j σ a) (fun q => q.1 = 0 ∧ am_ix j q.2.1 ∧ ax k_L_law 998 ls (.int (q.2.2 j.toNatClampNeg) :: st) σ Q) := rv_iald f_L_law_997 rfl
set_option maxRecDepth 100000 in
theorem f_L_law_998 : am_cd k_L_law 998 = some ((some .boolean), .aload_n 0, (0, 0, 0, 0, 0, .null)) := rfl
theorem s_L_law_998 {a1 a2 a3 : Option Value} {st : List Value} {σ : am_H} {Q : Option Value → am_H → Prop} {x : Nat} : ax k_L_law 998 [some (.ref x), a1, a2, a3] st σ Q = ax k_L_law 999 [some (.ref x), a1, a2, a3] (.ref x :: st) σ Q := ru_loc (q := (_, _)) f_L_law_998 rfl rfl rfl
set_option maxRecDepth 100000 in
theorem f_L_law_999 : am_cd k_L_law 999 = some ((some .boolean), .iload_n 3, (0, 0, 0, 0, 0, .null)) := rfl
theorem s_L_law_999 {a0 a1 a2 : Option Value} {st : List Value} {σ : am_H} {Q : Option Value → am_H → Prop} {x : Int32} : ax k_L_law 999 [a0, a1, a2, some (.int x)] st σ Q = ax k_L_law 1000 [a0, a1, a2, some (.int x)] (.int x :: st) σ Q := ru_loc (q := (_, _)) f_L_law_999 rfl rfl rfl
set_option maxRecDepth 100000 in
theorem f_L_law_1000 : am_cd k_L_law 1000 = some ((some .boolean), .iconst 5, (0, 0, 0, 0, 0, .null)) := rfl
theorem s_L_law_1000 {ls : am_L} {st : List Value} {σ : am_H} {Q : Option Value → am_H → Prop} : ax k_L_law 1000 ls st σ Q = ax k_L_law 1001 ls (.int 5 :: st) σ Q := ru_iconst f_L_law_1000 (by decide +kernel) rfl
set_option maxRecDepth 100000 in
theorem f_L_law_1001 : am_cd k_L_law 1001 = some ((some .boolean), .iadd, (0, 0, 0, 0, 0, .null)) := rfl
theorem s_L_law_1001 {ls : am_L} {st : List Value} {σ : am_H} {Q : Option Value → am_H → Prop} {x y : Int32} : ax k_L_law 1001 ls (.int y :: .int x :: st) σ Q = ax k_L_law 1002 ls (.int (x + y) :: st) σ Q := ru_pure f_L_law_1001 rfl rfl
set_option maxRecDepth 100000 in
theorem f_L_law_1002 : am_cd k_L_law 1002 = some ((some .boolean), .iaload, (0, 0, 0, 0, 0, .null)) := rfl
theorem s_L_law_1002 {ls : am_L} {st : List Value} {σ : am_H} {Q : Option Value → am_H → Prop} {a : Nat} {j : Int32} : ax k_L_law 1002 ls (.int j :: .ref a :: st) σ Q = ax_f (am_j σ a) (fun q => q.1 = 0 ∧ am_ix j q.2.1 ∧ ax k_L_law 1003 ls (.int (q.2.2 j.toNatClampNeg) :: st) σ Q) := rv_iald f_L_law_1002 rfl
set_option maxRecDepth 100000 in
theorem f_L_law_1003 : am_cd k_L_law 1003 = some ((some .boolean), .invokevirtual 102, (89, 5, 719, 0, 10, .null)) := rfl
theorem s_L_law_1003 {ls : am_L} {st : List Value} {σ : am_H} {Q : Option Value → am_H → Prop} {p0 : Int32} {p1 : Int32} {p2 : Int32} {p3 : Int32} {p4 : Int32} {b : Nat} (hi : am_is σ b 10) (h8 : am_s8 st) : ax k_L_law 1003 ls (.int p4 :: .int p3 :: .int p2 :: .int p1 :: .int p0 :: .ref b :: st) σ Q = ax k_A_why 0 [some (.ref b), some (.int p0), some (.int p1), some (.int p2), some (.int p3), some (.int p4), none] [] σ (ax_k k_L_law 1006 ls st Q) := ru_vir (M' := rk_A_why) f_L_law_1003 rfl rfl rfl rfl hi h8 rfl rfl rfl rfl rfl
set_option maxRecDepth 100000 in
theorem f_L_law_1006 : am_cd k_L_law 1006 = some ((some .boolean), .aload_n 2, (0, 0, 0, 0, 0, .null)) := rfl
theorem s_L_law_1006 {a0 a1 a3 : Option Value} {st : List Value} {σ : am_H} {Q : Option Value → am_H → Prop} {x : Nat} : ax k_L_law 1006 [a0, a1, some (.ref x), a3] st σ Q = ax k_L_law 1007 [a0, a1, some (.ref x), a3] (.ref x :: st) σ Q := ru_loc (q := (_, _)) f_L_law_1006 rfl rfl rfl
theorem s_L_law_1006n {a0 a1 a3 : Option Value} {st : List Value} {σ : am_H} {Q : Option Value → am_H → Prop} : ax k_L_law 1006 [a0, a1, some .null, a3] st σ Q = ax k_L_law 1007 [a0, a1, some .null, a3] (.null :: st) σ Q := ru_loc (q := (_, _)) f_L_law_1006 rfl rfl rfl
set_option maxRecDepth 100000 in
theorem f_L_law_1007 : am_cd k_L_law 1007 = some ((some .boolean), .aload_n 0, (0, 0, 0, 0, 0, .null)) := rfl
theorem s_L_law_1007 {a1 a2 a3 : Option Value} {st : List Value} {σ : am_H} {Q : Option Value → am_H → Prop} {x : Nat} : ax k_L_law 1007 [some (.ref x), a1, a2, a3] st σ Q = ax k_L_law 1008 [some (.ref x), a1, a2, a3] (.ref x :: st) σ Q := ru_loc (q := (_, _)) f_L_law_1007 rfl rfl rfl
set_option maxRecDepth 100000 in
theorem f_L_law_1008 : am_cd k_L_law 1008 = some ((some .boolean), .iload_n 3, (0, 0, 0, 0, 0, .null)) := rfl
theorem s_L_law_1008 {a0 a1 a2 : Option Value} {st : List Value} {σ : am_H} {Q : Option Value → am_H → Prop} {x : Int32} : ax k_L_law 1008 [a0, a1, a2, some (.int x)] st σ Q = ax k_L_law 1009 [a0, a1, a2, some (.int x)] (.int x :: st) σ Q := ru_loc (q := (_, _)) f_L_law_1008 rfl rfl rfl
set_option maxRecDepth 100000 in
theorem f_L_law_1009 : am_cd k_L_law 1009 = some ((some .boolean), .iconst 1, (0, 0, 0, 0, 0, .null)) := rfl
theorem s_L_law_1009 {ls : am_L} {st : List Value} {σ : am_H} {Q : Option Value → am_H → Prop} : ax k_L_law 1009 ls st σ Q = ax k_L_law 1010 ls (.int 1 :: st) σ Q := ru_iconst f_L_law_1009 (by decide +kernel) rfl
set_option maxRecDepth 100000 in
theorem f_L_law_1010 : am_cd k_L_law 1010 = some ((some .boolean), .iadd, (0, 0, 0, 0, 0, .null)) := rfl
theorem s_L_law_1010 {ls : am_L} {st : List Value} {σ : am_H} {Q : Option Value → am_H → Prop} {x y : Int32} : ax k_L_law 1010 ls (.int y :: .int x :: st) σ Q = ax k_L_law 1011 ls (.int (x + y) :: st) σ Q := ru_pure f_L_law_1010 rfl rfl
set_option maxRecDepth 100000 in
theorem f_L_law_1011 : am_cd k_L_law 1011 = some ((some .boolean), .iaload, (0, 0, 0, 0, 0, .null)) := rfl
theorem s_L_law_1011 {ls : am_L} {st : List Value} {σ : am_H} {Q : Option Value → am_H → Prop} {a : Nat} {j : Int32} : ax k_L_law 1011 ls (.int j :: .ref a :: st) σ Q = ax_f (am_j σ a) (fun q => q.1 = 0 ∧ am_ix j q.2.1 ∧ ax k_L_law 1012 ls (.int (q.2.2 j.toNatClampNeg) :: st) σ Q) := rv_iald f_L_law_1011 rfl
set_option maxRecDepth 100000 in
theorem f_L_law_1012 : am_cd k_L_law 1012 = some ((some .boolean), .aload_n 0, (0, 0, 0, 0, 0, .null)) := rfl
theorem s_L_law_1012 {a1 a2 a3 : Option Value} {st : List Value} {σ : am_H} {Q : Option Value → am_H → Prop} {x : Nat} : ax k_L_law 1012 [some (.ref x), a1, a2, a3] st σ Q = ax k_L_law 1013 [some (.ref x), a1, a2, a3] (.ref x :: st) σ Q := ru_loc (q := (_, _)) f_L_law_1012 rfl rfl rfl
set_option maxRecDepth 100000 in
theorem f_L_law_1013 : am_cd k_L_law 1013 = some ((some .boolean), .iload_n 3, (0, 0, 0, 0, 0, .null)) := rfl
theorem s_L_law_1013 {a0 a1 a2 : Option Value} {st : List Value} {σ : am_H} {Q : Option Value → am_H → Prop} {x : Int32} : ax k_L_law 1013 [a0, a1, a2, some (.int x)] st σ Q = ax k_L_law 1014 [a0, a1, a2, some (.int x)] (.int x :: st) σ Q := ru_loc (q := (_, _)) f_L_law_1013 rfl rfl rfl
set_option maxRecDepth 100000 in
theorem f_L_law_1014 : am_cd k_L_law 1014 = some ((some .boolean), .iconst 2, (0, 0, 0, 0, 0, .null)) := rfl
theorem s_L_law_1014 {ls : am_L} {st : List Value} {σ : am_H} {Q : Option Value → am_H → Prop} : ax k_L_law 1014 ls st σ Q = ax k_L_law 1015 ls (.int 2 :: st) σ Q := ru_iconst f_L_law_1014 (by decide +kernel) rfl
set_option maxRecDepth 100000 in
theorem f_L_law_1015 : am_cd k_L_law 1015 = some ((some .boolean), .iadd, (0, 0, 0, 0, 0, .null)) := rfl
theorem s_L_law_1015 {ls : am_L} {st : List Value} {σ : am_H} {Q : Option Value → am_H → Prop} {x y : Int32} : ax k_L_law 1015 ls (.int y :: .int x :: st) σ Q = ax k_L_law 1016 ls (.int (x + y) :: st) σ Q := ru_pure f_L_law_1015 rfl rfl
set_option maxRecDepth 100000 in
theorem f_L_law_1016 : am_cd k_L_law 1016 = some ((some .boolean), .iaload, (0, 0, 0, 0, 0, .null)) := rfl
theorem s_L_law_1016 {ls : am_L} {st : List Value} {σ : am_H} {Q : Option Value → am_H → Prop} {a : Nat} {j : Int32} : ax k_L_law 1016 ls (.int j :: .ref a :: st) σ Q = ax_f (am_j σ a) (fun q => q.1 = 0 ∧ am_ix j q.2.1 ∧ ax k_L_law 1017 ls (.int (q.2.2 j.toNatClampNeg) :: st) σ Q) := rv_iald f_L_law_1016 rfl
set_option maxRecDepth 100000 in
theorem f_L_law_1017 : am_cd k_L_law 1017 = some ((some .boolean), .aload_n 0, (0, 0, 0, 0, 0, .null)) := rfl
theorem s_L_law_1017 {a1 a2 a3 : Option Value} {st : List Value} {σ : am_H} {Q : Option Value → am_H → Prop} {x : Nat} : ax k_L_law 1017 [some (.ref x), a1, a2, a3] st σ Q = ax k_L_law 1018 [some (.ref x), a1, a2, a3] (.ref x :: st) σ Q := ru_loc (q := (_, _)) f_L_law_1017 rfl rfl rfl
set_option maxRecDepth 100000 in
theorem f_L_law_1018 : am_cd k_L_law 1018 = some ((some .boolean), .iload_n 3, (0, 0, 0, 0, 0, .null)) := rfl
theorem s_L_law_1018 {a0 a1 a2 : Option Value} {st : List Value} {σ : am_H} {Q : Option Value → am_H → Prop} {x : Int32} : ax k_L_law 1018 [a0, a1, a2, some (.int x)] st σ Q = ax k_L_law 1019 [a0, a1, a2, some (.int x)] (.int x :: st) σ Q := ru_loc (q := (_, _)) f_L_law_1018 rfl rfl rfl
set_option maxRecDepth 100000 in
theorem f_L_law_1019 : am_cd k_L_law 1019 = some ((some .boolean), .iconst 3, (0, 0, 0, 0, 0, .null)) := rfl
theorem s_L_law_1019 {ls : am_L} {st : List Value} {σ : am_H} {Q : Option Value → am_H → Prop} : ax k_L_law 1019 ls st σ Q = ax k_L_law 1020 ls (.int 3 :: st) σ Q := ru_iconst f_L_law_1019 (by decide +kernel) rfl
set_option maxRecDepth 100000 in
theorem f_L_law_1020 : am_cd k_L_law 1020 = some ((some .boolean), .iadd, (0, 0, 0, 0, 0, .null)) := rfl
theorem s_L_law_1020 {ls : am_L} {st : List Value} {σ : am_H} {Q : Option Value → am_H → Prop} {x y : Int32} : ax k_L_law 1020 ls (.int y :: .int x :: st) σ Q = ax k_L_law 1021 ls (.int (x + y) :: st) σ Q := ru_pure f_L_law_1020 rfl rfl
set_option maxRecDepth 100000 in
theorem f_L_law_1021 : am_cd k_L_law 1021 = some ((some .boolean), .iaload, (0, 0, 0, 0, 0, .null)) := rfl
theorem s_L_law_1021 {ls : am_L} {st : List Value} {σ : am_H} {Q : Option Value → am_H → Prop} {a : Nat} {j : Int32} : ax k_L_law 1021 ls (.int j :: .ref a :: st) σ Q = ax_f (am_j σ a) (fun q => q.1 = 0 ∧ am_ix j q.2.1 ∧ ax k_L_law 1022 ls (.int (q.2.2 j.toNatClampNeg) :: st) σ Q) := rv_iald f_L_law_1021 rfl
set_option maxRecDepth 100000 in
theorem f_L_law_1022 : am_cd k_L_law 1022 = some ((some .boolean), .aload_n 0, (0, 0, 0, 0, 0, .null)) := rfl
theorem s_L_law_1022 {a1 a2 a3 : Option Value} {st : List Value} {σ : am_H} {Q : Option Value → am_H → Prop} {x : Nat} : ax k_L_law 1022 [some (.ref x), a1, a2, a3] st σ Q = ax k_L_law 1023 [some (.ref x), a1, a2, a3] (.ref x :: st) σ Q := ru_loc (q := (_, _)) f_L_law_1022 rfl rfl rfl
set_option maxRecDepth 100000 in
theorem f_L_law_1023 : am_cd k_L_law 1023 = some ((some .boolean), .iload_n 3, (0, 0, 0, 0, 0, .null)) := rfl
theorem s_L_law_1023 {a0 a1 a2 : Option Value} {st : List Value} {σ : am_H} {Q : Option Value → am_H → Prop} {x : Int32} : ax k_L_law 1023 [a0, a1, a2, some (.int x)] st σ Q = ax k_L_law 1024 [a0, a1, a2, some (.int x)] (.int x :: st) σ Q := ru_loc (q := (_, _)) f_L_law_1023 rfl rfl rfl
set_option maxRecDepth 100000 in
theorem f_L_law_1024 : am_cd k_L_law 1024 = some ((some .boolean), .iconst 4, (0, 0, 0, 0, 0, .null)) := rfl
theorem s_L_law_1024 {ls : am_L} {st : List Value} {σ : am_H} {Q : Option Value → am_H → Prop} : ax k_L_law 1024 ls st σ Q = ax k_L_law 1025 ls (.int 4 :: st) σ Q := ru_iconst f_L_law_1024 (by decide +kernel) rfl
set_option maxRecDepth 100000 in
theorem f_L_law_1025 : am_cd k_L_law 1025 = some ((some .boolean), .iadd, (0, 0, 0, 0, 0, .null)) := rfl
theorem s_L_law_1025 {ls : am_L} {st : List Value} {σ : am_H} {Q : Option Value → am_H → Prop} {x y : Int32} : ax k_L_law 1025 ls (.int y :: .int x :: st) σ Q = ax k_L_law 1026 ls (.int (x + y) :: st) σ Q := ru_pure f_L_law_1025 rfl rfl
set_option maxRecDepth 100000 in
theorem f_L_law_1026 : am_cd k_L_law 1026 = some ((some .boolean), .iaload, (0, 0, 0, 0, 0, .null)) := rfl
theorem s_L_law_1026 {ls : am_L} {st : List Value} {σ : am_H} {Q : Option Value → am_H → Prop} {a : Nat} {j : Int32} : ax k_L_law 1026 ls (.int j :: .ref a :: st) σ Q = ax_f (am_j σ a) (fun q => q.1 = 0 ∧ am_ix j q.2.1 ∧ ax k_L_law 1027 ls (.int (q.2.2 j.toNatClampNeg) :: st) σ Q) := rv_iald f_L_law_1026 rfl
set_option maxRecDepth 100000 in
theorem f_L_law_1027 : am_cd k_L_law 1027 = some ((some .boolean), .aload_n 0, (0, 0, 0, 0, 0, .null)) := rfl
theorem s_L_law_1027 {a1 a2 a3 : Option Value} {st : List Value} {σ : am_H} {Q : Option Value → am_H → Prop} {x : Nat} : ax k_L_law 1027 [some (.ref x), a1, a2, a3] st σ Q = ax k_L_law 1028 [some (.ref x), a1, a2, a3] (.ref x :: st) σ Q := ru_loc (q := (_, _)) f_L_law_1027 rfl rfl rfl
set_option maxRecDepth 100000 in
theorem f_L_law_1028 : am_cd k_L_law 1028 = some ((some .boolean), .iload_n 3, (0, 0, 0, 0, 0, .null)) := rfl
theorem s_L_law_1028 {a0 a1 a2 : Option Value} {st : List Value} {σ : am_H} {Q : Option Value → am_H → Prop} {x : Int32} : ax k_L_law 1028 [a0, a1, a2, some (.int x)] st σ Q = ax k_L_law 1029 [a0, a1, a2, some (.int x)] (.int x :: st) σ Q := ru_loc (q := (_, _)) f_L_law_1028 rfl rfl rfl
set_option maxRecDepth 100000 in
theorem f_L_law_1029 : am_cd k_L_law 1029 = some ((some .boolean), .iconst 5, (0, 0, 0, 0, 0, .null)) := rfl
theorem s_L_law_1029 {ls : am_L} {st : List Value} {σ : am_H} {Q : Option Value → am_H → Prop} : ax k_L_law 1029 ls st σ Q = ax k_L_law 1030 ls (.int 5 :: st) σ Q := ru_iconst f_L_law_1029 (by decide +kernel) rfl
set_option maxRecDepth 100000 in
theorem f_L_law_1030 : am_cd k_L_law 1030 = some ((some .boolean), .iadd, (0, 0, 0, 0, 0, .null)) := rfl
theorem s_L_law_1030 {ls : am_L} {st : List Value} {σ : am_H} {Q : Option Value → am_H → Prop} {x y : Int32} : ax k_L_law 1030 ls (.int y :: .int x :: st) σ Q = ax k_L_law 1031 ls (.int (x + y) :: st) σ Q := ru_pure f_L_law_1030 rfl rfl
set_option maxRecDepth 100000 in
theorem f_L_law_1031 : am_cd k_L_law 1031 = some ((some .boolean), .iaload, (0, 0, 0, 0, 0, .null)) := rfl
theorem s_L_law_1031 {ls : am_L} {st : List Value} {σ : am_H} {Q : Option Value → am_H → Prop} {a : Nat} {j : Int32} : ax k_L_law 1031 ls (.int j :: .ref a :: st) σ Q = ax_f (am_j σ a) (fun q => q.1 = 0 ∧ am_ix j q.2.1 ∧ ax k_L_law 1032 ls (.int (q.2.2 j.toNatClampNeg) :: st) σ Q) := rv_iald f_L_law_1031 rfl
set_option maxRecDepth 100000 in
theorem f_L_law_1032 : am_cd k_L_law 1032 = some ((some .boolean), .invokevirtual 105, (163, 5, 1284, 0, 11, .null)) := rfl
theorem s_L_law_1032 {ls : am_L} {st : List Value} {σ : am_H} {Q : Option Value → am_H → Prop} {p0 : Int32} {p1 : Int32} {p2 : Int32} {p3 : Int32} {p4 : Int32} {b : Nat} (hi : am_is σ b 11) (h8 : am_s8 st) : ax k_L_law 1032 ls (.int p4 :: .int p3 :: .int p2 :: .int p1 :: .int p0 :: .ref b :: st) σ Q = ax k_M_why 0 [some (.ref b), some (.int p0), some (.int p1), some (.int p2), some (.int p3), some (.int p4)] [] σ (ax_k k_L_law 1035 ls st Q) := ru_vir (M' := rk_M_why) f_L_law_1032 rfl rfl rfl rfl hi h8 rfl rfl rfl rfl rfl
set_option maxRecDepth 100000 in
theorem f_L_law_1035 : am_cd k_L_law 1035 = some ((some .boolean), .if_icmp .eq 355, (1390, 0, 0, 0, 0, .null)) := rfl
theorem s_L_law_1035 {ls : am_L} {st : List Value} {σ : am_H} {Q : Option Value → am_H → Prop} {x y : Int32} : ax k_L_law 1035 ls (.int y :: .int x :: st) σ Q = (if x = y then ax k_L_law 1390 ls st σ Q else ax k_L_law 1038 ls st σ Q) := (ru_icmp f_L_law_1035 rfl).trans (ru_i_eq _ _ _ _)
set_option maxRecDepth 100000 in
theorem f_L_law_1038 : am_cd k_L_law 1038 = some ((some .boolean), .iconst 0, (0, 0, 0, 0, 0, .null)) := rfl
theorem s_L_law_1038 {ls : am_L} {st : List Value} {σ : am_H} {Q : Option Value → am_H → Prop} : ax k_L_law 1038 ls st σ Q = ax k_L_law 1039 ls (.int 0 :: st) σ Q := ru_iconst f_L_law_1038 (by decide +kernel) rfl
set_option maxRecDepth 100000 in
theorem f_L_law_1039 : am_cd k_L_law 1039 = some ((some .boolean), .ireturn, (0, 0, 0, 0, 0, .null)) := rfl
theorem s_L_law_1039 {ls : am_L} {σ : am_H} {Q : Option Value → am_H → Prop} {v : Int32} : ax k_L_law 1039 ls ([.int v]) σ Q = (am_nar .boolean v = true ∧ Q (some (.int v)) σ) := ru_iret f_L_law_1039
set_option maxRecDepth 100000 in
theorem f_L_law_1040 : am_cd k_L_law 1040 = some ((some .boolean), .aload_n 1, (0, 0, 0, 0, 0, .null)) := rfl
theorem s_L_law_1040 {a0 a2 a3 : Option Value} {st : List Value} {σ : am_H} {Q : Option Value → am_H → Prop} {x : Nat} : ax k_L_law 1040 [a0, some (.ref x), a2, a3] st σ Q = ax k_L_law 1041 [a0, some (.ref x), a2, a3] (.ref x :: st) σ Q := ru_loc (q := (_, _)) f_L_law_1040 rfl rfl rfl
theorem s_L_law_1040n {a0 a2 a3 : Option Value} {st : List Value} {σ : am_H} {Q : Option Value → am_H → Prop} : ax k_L_law 1040 [a0, some .null, a2, a3] st σ Q = ax k_L_law 1041 [a0, some .null, a2, a3] (.null :: st) σ Q := ru_loc (q := (_, _)) f_L_law_1040 rfl rfl rfl
set_option maxRecDepth 100000 in
theorem f_L_law_1041 : am_cd k_L_law 1041 = some ((some .boolean), .aload_n 0, (0, 0, 0, 0, 0, .null)) := rfl
theorem s_L_law_1041 {a1 a2 a3 : Option Value} {st : List Value} {σ : am_H} {Q : Option Value → am_H → Prop} {x : Nat} : ax k_L_law 1041 [some (.ref x), a1, a2, a3] st σ Q = ax k_L_law 1042 [some (.ref x), a1, a2, a3] (.ref x :: st) σ Q := ru_loc (q := (_, _)) f_L_law_1041 rfl rfl rfl
set_option maxRecDepth 100000 in
theorem f_L_law_1042 : am_cd k_L_law 1042 = some ((some .boolean), .iload_n 3, (0, 0, 0, 0, 0, .null)) := rfl
theorem s_L_law_1042 {a0 a1 a2 : Option Value} {st : List Value} {σ : am_H} {Q : Option Value → am_H → Prop} {x : Int32} : ax k_L_law 1042 [a0, a1, a2, some (.int x)] st σ Q = ax k_L_law 1043 [a0, a1, a2, some (.int x)] (.int x :: st) σ Q := ru_loc (q := (_, _)) f_L_law_1042 rfl rfl rfl
set_option maxRecDepth 100000 in
theorem f_L_law_1043 : am_cd k_L_law 1043 = some ((some .boolean), .iconst 1, (0, 0, 0, 0, 0, .null)) := rfl
theorem s_L_law_1043 {ls : am_L} {st : List Value} {σ : am_H} {Q : Option Value → am_H → Prop} : ax k_L_law 1043 ls st σ Q = ax k_L_law 1044 ls (.int 1 :: st) σ Q := ru_iconst f_L_law_1043 (by decide +kernel) rfl
set_option maxRecDepth 100000 in
theorem f_L_law_1044 : am_cd k_L_law 1044 = some ((some .boolean), .iadd, (0, 0, 0, 0, 0, .null)) := rfl
theorem s_L_law_1044 {ls : am_L} {st : List Value} {σ : am_H} {Q : Option Value → am_H → Prop} {x y : Int32} : ax k_L_law 1044 ls (.int y :: .int x :: st) σ Q = ax k_L_law 1045 ls (.int (x + y) :: st) σ Q := ru_pure f_L_law_1044 rfl rfl
set_option maxRecDepth 100000 in
theorem f_L_law_1045 : am_cd k_L_law 1045 = some ((some .boolean), .iaload, (0, 0, 0, 0, 0, .null)) := rfl
theorem s_L_law_1045 {ls : am_L} {st : List Value} {σ : am_H} {Q : Option Value → am_H → Prop} {a : Nat} {j : Int32} : ax k_L_law 1045 ls (.int j :: .ref a :: st) σ Q = ax_f (am_j σ a) (fun q => q.1 = 0 ∧ am_ix j q.2.1 ∧ ax k_L_law 1046 ls (.int (q.2.2 j.toNatClampNeg) :: st) σ Q) := rv_iald f_L_law_1045 rfl
set_option maxRecDepth 100000 in
theorem f_L_law_1046 : am_cd k_L_law 1046 = some ((some .boolean), .aload_n 0, (0, 0, 0, 0, 0, .null)) := rfl
theorem s_L_law_1046 {a1 a2 a3 : Option Value} {st : List Value} {σ : am_H} {Q : Option Value → am_H → Prop} {x : Nat} : ax k_L_law 1046 [some (.ref x), a1, a2, a3] st σ Q = ax k_L_law 1047 [some (.ref x), a1, a2, a3] (.ref x :: st) σ Q := ru_loc (q := (_, _)) f_L_law_1046 rfl rfl rfl
set_option maxRecDepth 100000 in
theorem f_L_law_1047 : am_cd k_L_law 1047 = some ((some .boolean), .iload_n 3, (0, 0, 0, 0, 0, .null)) := rfl
theorem s_L_law_1047 {a0 a1 a2 : Option Value} {st : List Value} {σ : am_H} {Q : Option Value → am_H → Prop} {x : Int32} : ax k_L_law 1047 [a0, a1, a2, some (.int x)] st σ Q = ax k_L_law 1048 [a0, a1, a2, some (.int x)] (.int x :: st) σ Q := ru_loc (q := (_, _)) f_L_law_1047 rfl rfl rfl
set_option maxRecDepth 100000 in
theorem f_L_law_1048 : am_cd k_L_law 1048 = some ((some .boolean), .iconst 2, (0, 0, 0, 0, 0, .null)) := rfl
theorem s_L_law_1048 {ls : am_L} {st : List Value} {σ : am_H} {Q : Option Value → am_H → Prop} : ax k_L_law 1048 ls st σ Q = ax k_L_law 1049 ls (.int 2 :: st) σ Q := ru_iconst f_L_law_1048 (by decide +kernel) rfl
set_option maxRecDepth 100000 in
theorem f_L_law_1049 : am_cd k_L_law 1049 = some ((some .boolean), .iadd, (0, 0, 0, 0, 0, .null)) := rfl
theorem s_L_law_1049 {ls : am_L} {st : List Value} {σ : am_H} {Q : Option Value → am_H → Prop} {x y : Int32} : ax k_L_law 1049 ls (.int y :: .int x :: st) σ Q = ax k_L_law 1050 ls (.int (x + y) :: st) σ Q := ru_pure f_L_law_1049 rfl rfl
set_option maxRecDepth 100000 in
theorem f_L_law_1050 : am_cd k_L_law 1050 = some ((some .boolean), .iaload, (0, 0, 0, 0, 0, .null)) := rfl
theorem s_L_law_1050 {ls : am_L} {st : List Value} {σ : am_H} {Q : Option Value → am_H → Prop} {a : Nat} {j : Int32} : ax k_L_law 1050 ls (.int j :: .ref a :: st) σ Q = ax_f (am_j σ a) (fun q => q.1 = 0 ∧ am_ix j q.2.1 ∧ ax k_L_law 1051 ls (.int (q.2.2 j.toNatClampNeg) :: st) σ Q) := rv_iald f_L_law_1050 rfl
set_option maxRecDepth 100000 in
theorem f_L_law_1051 : am_cd k_L_law 1051 = some ((some .boolean), .aload_n 0, (0, 0, 0, 0, 0, .null)) := rfl
theorem s_L_law_1051 {a1 a2 a3 : Option Value} {st : List Value} {σ : am_H} {Q : Option Value → am_H → Prop} {x : Nat} : ax k_L_law 1051 [some (.ref x), a1, a2, a3] st σ Q = ax k_L_law 1052 [some (.ref x), a1, a2, a3] (.ref x :: st) σ Q := ru_loc (q := (_, _)) f_L_law_1051 rfl rfl rfl
set_option maxRecDepth 100000 in
theorem f_L_law_1052 : am_cd k_L_law 1052 = some ((some .boolean), .iload_n 3, (0, 0, 0, 0, 0, .null)) := rfl
theorem s_L_law_1052 {a0 a1 a2 : Option Value} {st : List Value} {σ : am_H} {Q : Option Value → am_H → Prop} {x : Int32} : ax k_L_law 1052 [a0, a1, a2, some (.int x)] st σ Q = ax k_L_law 1053 [a0, a1, a2, some (.int x)] (.int x :: st) σ Q := ru_loc (q := (_, _)) f_L_law_1052 rfl rfl rfl
set_option maxRecDepth 100000 in
theorem f_L_law_1053 : am_cd k_L_law 1053 = some ((some .boolean), .iconst 3, (0, 0, 0, 0, 0, .null)) := rfl
theorem s_L_law_1053 {ls : am_L} {st : List Value} {σ : am_H} {Q : Option Value → am_H → Prop} : ax k_L_law 1053 ls st σ Q = ax k_L_law 1054 ls (.int 3 :: st) σ Q := ru_iconst f_L_law_1053 (by decide +kernel) rfl
set_option maxRecDepth 100000 in
theorem f_L_law_1054 : am_cd k_L_law 1054 = some ((some .boolean), .iadd, (0, 0, 0, 0, 0, .null)) := rfl
theorem s_L_law_1054 {ls : am_L} {st : List Value} {σ : am_H} {Q : Option Value → am_H → Prop} {x y : Int32} : ax k_L_law 1054 ls (.int y :: .int x :: st) σ Q = ax k_L_law 1055 ls (.int (x + y) :: st) σ Q := ru_pure f_L_law_1054 rfl rfl
set_option maxRecDepth 100000 in
theorem f_L_law_1055 : am_cd k_L_law 1055 = some ((some .boolean), .iaload, (0, 0, 0, 0, 0, .null)) := rfl
theorem s_L_law_1055 {ls : am_L} {st : List Value} {σ : am_H} {Q : Option Value → am_H → Prop} {a : Nat} {j : Int32} : ax k_L_law 1055 ls (.int j :: .ref a :: st) σ Q = ax_f (am_j σ a) (fun q => q.1 = 0 ∧ am_ix j q.2.1 ∧ ax k_L_law 1056 ls (.int (q.2.2 j.toNatClampNeg) :: st) σ Q) := rv_iald f_L_law_1055 rfl
set_option maxRecDepth 100000 in
theorem f_L_law_1056 : am_cd k_L_law 1056 = some ((some .boolean), .aload_n 0, (0, 0, 0, 0, 0, .null)) := rfl
theorem s_L_law_1056 {a1 a2 a3 : Option Value} {st : List Value} {σ : am_H} {Q : Option Value → am_H → Prop} {x : Nat} : ax k_L_law 1056 [some (.ref x), a1, a2, a3] st σ Q = ax k_L_law 1057 [some (.ref x), a1, a2, a3] (.ref x :: st) σ Q := ru_loc (q := (_, _)) f_L_law_1056 rfl rfl rfl
set_option maxRecDepth 100000 in
theorem f_L_law_1057 : am_cd k_L_law 1057 = some ((some .boolean), .iload_n 3, (0, 0, 0, 0, 0, .null)) := rfl
theorem s_L_law_1057 {a0 a1 a2 : Option Value} {st : List Value} {σ : am_H} {Q : Option Value → am_H → Prop} {x : Int32} : ax k_L_law 1057 [a0, a1, a2, some (.int x)] st σ Q = ax k_L_law 1058 [a0, a1, a2, some (.int x)] (.int x :: st) σ Q := ru_loc (q := (_, _)) f_L_law_1057 rfl rfl rfl
set_option maxRecDepth 100000 in
theorem f_L_law_1058 : am_cd k_L_law 1058 = some ((some .boolean), .iconst 4, (0, 0, 0, 0, 0, .null)) := rfl
theorem s_L_law_1058 {ls : am_L} {st : List Value} {σ : am_H} {Q : Option Value → am_H → Prop} : ax k_L_law 1058 ls st σ Q = ax k_L_law 1059 ls (.int 4 :: st) σ Q := ru_iconst f_L_law_1058 (by decide +kernel) rfl
set_option maxRecDepth 100000 in
theorem f_L_law_1059 : am_cd k_L_law 1059 = some ((some .boolean), .iadd, (0, 0, 0, 0, 0, .null)) := rfl
theorem s_L_law_1059 {ls : am_L} {st : List Value} {σ : am_H} {Q : Option Value → am_H → Prop} {x y : Int32} : ax k_L_law 1059 ls (.int y :: .int x :: st) σ Q = ax k_L_law 1060 ls (.int (x + y) :: st) σ Q := ru_pure f_L_law_1059 rfl rfl
set_option maxRecDepth 100000 in
theorem f_L_law_1060 : am_cd k_L_law 1060 = some ((some .boolean), .iaload, (0, 0, 0, 0, 0, .null)) := rfl
theorem s_L_law_1060 {ls : am_L} {st : List Value} {σ : am_H} {Q : Option Value → am_H → Prop} {a : Nat} {j : Int32} : ax k_L_law 1060 ls (.int j :: .ref a :: st) σ Q = ax_f (am_j σ a) (fun q => q.1 = 0 ∧ am_ix j q.2.1 ∧ ax k_L_law 1061 ls (.int (q.2.2 j.toNatClampNeg) :: st) σ Q) := rv_iald f_L_law_1060 rfl
set_option maxRecDepth 100000 in
theorem f_L_law_1061 : am_cd k_L_law 1061 = some ((some .boolean), .aload_n 0, (0, 0, 0, 0, 0, .null)) := rfl
theorem s_L_law_1061 {a1 a2 a3 : Option Value} {st : List Value} {σ : am_H} {Q : Option Value → am_H → Prop} {x : Nat} : ax k_L_law 1061 [some (.ref x), a1, a2, a3] st σ Q = ax k_L_law 1062 [some (.ref x), a1, a2, a3] (.ref x :: st) σ Q := ru_loc (q := (_, _)) f_L_law_1061 rfl rfl rfl
set_option maxRecDepth 100000 in
theorem f_L_law_1062 : am_cd k_L_law 1062 = some ((some .boolean), .iload_n 3, (0, 0, 0, 0, 0, .null)) := rfl
theorem s_L_law_1062 {a0 a1 a2 : Option Value} {st : List Value} {σ : am_H} {Q : Option Value → am_H → Prop} {x : Int32} : ax k_L_law 1062 [a0, a1, a2, some (.int x)] st σ Q = ax k_L_law 1063 [a0, a1, a2, some (.int x)] (.int x :: st) σ Q := ru_loc (q := (_, _)) f_L_law_1062 rfl rfl rfl
set_option maxRecDepth 100000 in
theorem f_L_law_1063 : am_cd k_L_law 1063 = some ((some .boolean), .iconst 5, (0, 0, 0, 0, 0, .null)) := rfl
theorem s_L_law_1063 {ls : am_L} {st : List Value} {σ : am_H} {Q : Option Value → am_H → Prop} : ax k_L_law 1063 ls st σ Q = ax k_L_law 1064 ls (.int 5 :: st) σ Q := ru_iconst f_L_law_1063 (by decide +kernel) rfl
set_option maxRecDepth 100000 in
theorem f_L_law_1064 : am_cd k_L_law 1064 = some ((some .boolean), .iadd, (0, 0, 0, 0, 0, .null)) := rfl
theorem s_L_law_1064 {ls : am_L} {st : List Value} {σ : am_H} {Q : Option Value → am_H → Prop} {x y : Int32} : ax k_L_law 1064 ls (.int y :: .int x :: st) σ Q = ax k_L_law 1065 ls (.int (x + y) :: st) σ Q := ru_pure f_L_law_1064 rfl rfl
set_option maxRecDepth 100000 in
theorem f_L_law_1065 : am_cd k_L_law 1065 = some ((some .boolean), .iaload, (0, 0, 0, 0, 0, .null)) := rfl
theorem s_L_law_1065 {ls : am_L} {st : List Value} {σ : am_H} {Q : Option Value → am_H → Prop} {a : Nat} {j : Int32} : ax k_L_law 1065 ls (.int j :: .ref a :: st) σ Q = ax_f (am_j σ a) (fun q => q.1 = 0 ∧ am_ix j q.2.1 ∧ ax k_L_law 1066 ls (.int (q.2.2 j.toNatClampNeg) :: st) σ Q) := rv_iald f_L_law_1065 rfl
set_option maxRecDepth 100000 in
theorem f_L_law_1066 : am_cd k_L_law 1066 = some ((some .boolean), .invokevirtual 106, (90, 5, 765, 0, 10, .null)) := rfl
theorem s_L_law_1066 {ls : am_L} {st : List Value} {σ : am_H} {Q : Option Value → am_H → Prop} {p0 : Int32} {p1 : Int32} {p2 : Int32} {p3 : Int32} {p4 : Int32} {b : Nat} (hi : am_is σ b 10) (h8 : am_s8 st) : ax k_L_law 1066 ls (.int p4 :: .int p3 :: .int p2 :: .int p1 :: .int p0 :: .ref b :: st) σ Q = ax k_A_by 0 [some (.ref b), some (.int p0), some (.int p1), some (.int p2), some (.int p3), some (.int p4)] [] σ (ax_k k_L_law 1069 ls st Q) := ru_vir (M' := rk_A_by) f_L_law_1066 rfl rfl rfl rfl hi h8 rfl rfl rfl rfl rfl
set_option maxRecDepth 100000 in
theorem f_L_law_1069 : am_cd k_L_law 1069 = some ((some .boolean), .aload_n 2, (0, 0, 0, 0, 0, .null)) := rfl
theorem s_L_law_1069 {a0 a1 a3 : Option Value} {st : List Value} {σ : am_H} {Q : Option Value → am_H → Prop} {x : Nat} : ax k_L_law 1069 [a0, a1, some (.ref x), a3] st σ Q = ax k_L_law 1070 [a0, a1, some (.ref x), a3] (.ref x :: st) σ Q := ru_loc (q := (_, _)) f_L_law_1069 rfl rfl rfl
theorem s_L_law_1069n {a0 a1 a3 : Option Value} {st : List Value} {σ : am_H} {Q : Option Value → am_H → Prop} : ax k_L_law 1069 [a0, a1, some .null, a3] st σ Q = ax k_L_law 1070 [a0, a1, some .null, a3] (.null :: st) σ Q := ru_loc (q := (_, _)) f_L_law_1069 rfl rfl rfl
set_option maxRecDepth 100000 in
theorem f_L_law_1070 : am_cd k_L_law 1070 = some ((some .boolean), .aload_n 0, (0, 0, 0, 0, 0, .null)) := rfl
theorem s_L_law_1070 {a1 a2 a3 : Option Value} {st : List Value} {σ : am_H} {Q : Option Value → am_H → Prop} {x : Nat} : ax k_L_law 1070 [some (.ref x), a1, a2, a3] st σ Q = ax k_L_law 1071 [some (.ref x), a1, a2, a3] (.ref x :: st) σ Q := ru_loc (q := (_, _)) f_L_law_1070 rfl rfl rfl
set_option maxRecDepth 100000 in
theorem f_L_law_1071 : am_cd k_L_law 1071 = some ((some .boolean), .iload_n 3, (0, 0, 0, 0, 0, .null)) := rfl
theorem s_L_law_1071 {a0 a1 a2 : Option Value} {st : List Value} {σ : am_H} {Q : Option Value → am_H → Prop} {x : Int32} : ax k_L_law 1071 [a0, a1, a2, some (.int x)] st σ Q = ax k_L_law 1072 [a0, a1, a2, some (.int x)] (.int x :: st) σ Q := ru_loc (q := (_, _)) f_L_law_1071 rfl rfl rfl
set_option maxRecDepth 100000 in
theorem f_L_law_1072 : am_cd k_L_law 1072 = some ((some .boolean), .iconst 1, (0, 0, 0, 0, 0, .null)) := rfl
theorem s_L_law_1072 {ls : am_L} {st : List Value} {σ : am_H} {Q : Option Value → am_H → Prop} : ax k_L_law 1072 ls st σ Q = ax k_L_law 1073 ls (.int 1 :: st) σ Q := ru_iconst f_L_law_1072 (by decide +kernel) rfl
set_option maxRecDepth 100000 in
theorem f_L_law_1073 : am_cd k_L_law 1073 = some ((some .boolean), .iadd, (0, 0, 0, 0, 0, .null)) := rfl
theorem s_L_law_1073 {ls : am_L} {st : List Value} {σ : am_H} {Q : Option Value → am_H → Prop} {x y : Int32} : ax k_L_law 1073 ls (.int y :: .int x :: st) σ Q = ax k_L_law 1074 ls (.int (x + y) :: st) σ Q := ru_pure f_L_law_1073 rfl rfl
set_option maxRecDepth 100000 in
theorem f_L_law_1074 : am_cd k_L_law 1074 = some ((some .boolean), .iaload, (0, 0, 0, 0, 0, .null)) := rfl
theorem s_L_law_1074 {ls : am_L} {st : List Value} {σ : am_H} {Q : Option Value → am_H → Prop} {a : Nat} {j : Int32} : ax k_L_law 1074 ls (.int j :: .ref a :: st) σ Q = ax_f (am_j σ a) (fun q => q.1 = 0 ∧ am_ix j q.2.1 ∧ ax k_L_law 1075 ls (.int (q.2.2 j.toNatClampNeg) :: st) σ Q) := rv_iald f_L_law_1074 rfl
set_option maxRecDepth 100000 in
theorem f_L_law_1075 : am_cd k_L_law 1075 = some ((some .boolean), .aload_n 0, (0, 0, 0, 0, 0, .null)) := rfl
theorem s_L_law_1075 {a1 a2 a3 : Option Value} {st : List Value} {σ : am_H} {Q : Option Value → am_H → Prop} {x : Nat} : ax k_L_law 1075 [some (.ref x), a1, a2, a3] st σ Q = ax k_L_law 1076 [some (.ref x), a1, a2, a3] (.ref x :: st) σ Q := ru_loc (q := (_, _)) f_L_law_1075 rfl rfl rfl
set_option maxRecDepth 100000 in
theorem f_L_law_1076 : am_cd k_L_law 1076 = some ((some .boolean), .iload_n 3, (0, 0, 0, 0, 0, .null)) := rfl
theorem s_L_law_1076 {a0 a1 a2 : Option Value} {st : List Value} {σ : am_H} {Q : Option Value → am_H → Prop} {x : Int32} : ax k_L_law 1076 [a0, a1, a2, some (.int x)] st σ Q = ax k_L_law 1077 [a0, a1, a2, some (.int x)] (.int x :: st) σ Q := ru_loc (q := (_, _)) f_L_law_1076 rfl rfl rfl
set_option maxRecDepth 100000 in
theorem f_L_law_1077 : am_cd k_L_law 1077 = some ((some .boolean), .iconst 2, (0, 0, 0, 0, 0, .null)) := rfl
theorem s_L_law_1077 {ls : am_L} {st : List Value} {σ : am_H} {Q : Option Value → am_H → Prop} : ax k_L_law 1077 ls st σ Q = ax k_L_law 1078 ls (.int 2 :: st) σ Q := ru_iconst f_L_law_1077 (by decide +kernel) rfl
set_option maxRecDepth 100000 in
theorem f_L_law_1078 : am_cd k_L_law 1078 = some ((some .boolean), .iadd, (0, 0, 0, 0, 0, .null)) := rfl
theorem s_L_law_1078 {ls : am_L} {st : List Value} {σ : am_H} {Q : Option Value → am_H → Prop} {x y : Int32} : ax k_L_law 1078 ls (.int y :: .int x :: st) σ Q = ax k_L_law 1079 ls (.int (x + y) :: st) σ Q := ru_pure f_L_law_1078 rfl rfl
set_option maxRecDepth 100000 in
theorem f_L_law_1079 : am_cd k_L_law 1079 = some ((some .boolean), .iaload, (0, 0, 0, 0, 0, .null)) := rfl
theorem s_L_law_1079 {ls : am_L} {st : List Value} {σ : am_H} {Q : Option Value → am_H → Prop} {a : Nat} {j : Int32} : ax k_L_law 1079 ls (.int j :: .ref a :: st) σ Q = ax_f (am_j σ a) (fun q => q.1 = 0 ∧ am_ix j q.2.1 ∧ ax k_L_law 1080 ls (.int (q.2.2 j.toNatClampNeg) :: st) σ Q) := rv_iald f_L_law_1079 rfl
set_option maxRecDepth 100000 in
theorem f_L_law_1080 : am_cd k_L_law 1080 = some ((some .boolean), .aload_n 0, (0, 0, 0, 0, 0, .null)) := rfl
theorem s_L_law_1080 {a1 a2 a3 : Option Value} {st : List Value} {σ : am_H} {Q : Option Value → am_H → Prop} {x : Nat} : ax k_L_law 1080 [some (.ref x), a1, a2, a3] st σ Q = ax k_L_law 1081 [some (.ref x), a1, a2, a3] (.ref x :: st) σ Q := ru_loc (q := (_, _)) f_L_law_1080 rfl rfl rfl
set_option maxRecDepth 100000 in
theorem f_L_law_1081 : am_cd k_L_law 1081 = some ((some .boolean), .iload_n 3, (0, 0, 0, 0, 0, .null)) := rfl
theorem s_L_law_1081 {a0 a1 a2 : Option Value} {st : List Value} {σ : am_H} {Q : Option Value → am_H → Prop} {x : Int32} : ax k_L_law 1081 [a0, a1, a2, some (.int x)] st σ Q = ax k_L_law 1082 [a0, a1, a2, some (.int x)] (.int x :: st) σ Q := ru_loc (q := (_, _)) f_L_law_1081 rfl rfl rfl
set_option maxRecDepth 100000 in
theorem f_L_law_1082 : am_cd k_L_law 1082 = some ((some .boolean), .iconst 3, (0, 0, 0, 0, 0, .null)) := rfl
theorem s_L_law_1082 {ls : am_L} {st : List Value} {σ : am_H} {Q : Option Value → am_H → Prop} : ax k_L_law 1082 ls st σ Q = ax k_L_law 1083 ls (.int 3 :: st) σ Q := ru_iconst f_L_law_1082 (by decide +kernel) rfl
set_option maxRecDepth 100000 in
theorem f_L_law_1083 : am_cd k_L_law 1083 = some ((some .boolean), .iadd, (0, 0, 0, 0, 0, .null)) := rfl
theorem s_L_law_1083 {ls : am_L} {st : List Value} {σ : am_H} {Q : Option Value → am_H → Prop} {x y : Int32} : ax k_L_law 1083 ls (.int y :: .int x :: st) σ Q = ax k_L_law 1084 ls (.int (x + y) :: st) σ Q := ru_pure f_L_law_1083 rfl rfl
set_option maxRecDepth 100000 in
theorem f_L_law_1084 : am_cd k_L_law 1084 = some ((some .boolean), .iaload, (0, 0, 0, 0, 0, .null)) := rfl
theorem s_L_law_1084 {ls : am_L} {st : List Value} {σ : am_H} {Q : Option Value → am_H → Prop} {a : Nat} {j : Int32} : ax k_L_law 1084 ls (.int j :: .ref a :: st) σ Q = ax_f (am_j σ a) (fun q => q.1 = 0 ∧ am_ix j q.2.1 ∧ ax k_L_law 1085 ls (.int (q.2.2 j.toNatClampNeg) :: st) σ Q) := rv_iald f_L_law_1084 rfl
set_option maxRecDepth 100000 in
theorem f_L_law_1085 : am_cd k_L_law 1085 = some ((some .boolean), .aload_n 0, (0, 0, 0, 0, 0, .null)) := rfl
theorem s_L_law_1085 {a1 a2 a3 : Option Value} {st : List Value} {σ : am_H} {Q : Option Value → am_H → Prop} {x : Nat} : ax k_L_law 1085 [some (.ref x), a1, a2, a3] st σ Q = ax k_L_law 1086 [some (.ref x), a1, a2, a3] (.ref x :: st) σ Q := ru_loc (q := (_, _)) f_L_law_1085 rfl rfl rfl
set_option maxRecDepth 100000 in
theorem f_L_law_1086 : am_cd k_L_law 1086 = some ((some .boolean), .iload_n 3, (0, 0, 0, 0, 0, .null)) := rfl
theorem s_L_law_1086 {a0 a1 a2 : Option Value} {st : List Value} {σ : am_H} {Q : Option Value → am_H → Prop} {x : Int32} : ax k_L_law 1086 [a0, a1, a2, some (.int x)] st σ Q = ax k_L_law 1087 [a0, a1, a2, some (.int x)] (.int x :: st) σ Q := ru_loc (q := (_, _)) f_L_law_1086 rfl rfl rfl
set_option maxRecDepth 100000 in
theorem f_L_law_1087 : am_cd k_L_law 1087 = some ((some .boolean), .iconst 4, (0, 0, 0, 0, 0, .null)) := rfl
theorem s_L_law_1087 {ls : am_L} {st : List Value} {σ : am_H} {Q : Option Value → am_H → Prop} : ax k_L_law 1087 ls st σ Q = ax k_L_law 1088 ls (.int 4 :: st) σ Q := ru_iconst f_L_law_1087 (by decide +kernel) rfl
set_option maxRecDepth 100000 in
theorem f_L_law_1088 : am_cd k_L_law 1088 = some ((some .boolean), .iadd, (0, 0, 0, 0, 0, .null)) := rfl
theorem s_L_law_1088 {ls : am_L} {st : List Value} {σ : am_H} {Q : Option Value → am_H → Prop} {x y : Int32} : ax k_L_law 1088 ls (.int y :: .int x :: st) σ Q = ax k_L_law 1089 ls (.int (x + y) :: st) σ Q := ru_pure f_L_law_1088 rfl rfl
set_option maxRecDepth 100000 in
theorem f_L_law_1089 : am_cd k_L_law 1089 = some ((some .boolean), .iaload, (0, 0, 0, 0, 0, .null)) := rfl
theorem s_L_law_1089 {ls : am_L} {st : List Value} {σ : am_H} {Q : Option Value → am_H → Prop} {a : Nat} {j : Int32} : ax k_L_law 1089 ls (.int j :: .ref a :: st) σ Q = ax_f (am_j σ a) (fun q => q.1 = 0 ∧ am_ix j q.2.1 ∧ ax k_L_law 1090 ls (.int (q.2.2 j.toNatClampNeg) :: st) σ Q) := rv_iald f_L_law_1089 rfl
set_option maxRecDepth 100000 in
theorem f_L_law_1090 : am_cd k_L_law 1090 = some ((some .boolean), .aload_n 0, (0, 0, 0, 0, 0, .null)) := rfl
theorem s_L_law_1090 {a1 a2 a3 : Option Value} {st : List Value} {σ : am_H} {Q : Option Value → am_H → Prop} {x : Nat} : ax k_L_law 1090 [some (.ref x), a1, a2, a3] st σ Q = ax k_L_law 1091 [some (.ref x), a1, a2, a3] (.ref x :: st) σ Q := ru_loc (q := (_, _)) f_L_law_1090 rfl rfl rfl
set_option maxRecDepth 100000 in
theorem f_L_law_1091 : am_cd k_L_law 1091 = some ((some .boolean), .iload_n 3, (0, 0, 0, 0, 0, .null)) := rfl
theorem s_L_law_1091 {a0 a1 a2 : Option Value} {st : List Value} {σ : am_H} {Q : Option Value → am_H → Prop} {x : Int32} : ax k_L_law 1091 [a0, a1, a2, some (.int x)] st σ Q = ax k_L_law 1092 [a0, a1, a2, some (.int x)] (.int x :: st) σ Q := ru_loc (q := (_, _)) f_L_law_1091 rfl rfl rfl
set_option maxRecDepth 100000 in
theorem f_L_law_1092 : am_cd k_L_law 1092 = some ((some .boolean), .iconst 5, (0, 0, 0, 0, 0, .null)) := rfl
theorem s_L_law_1092 {ls : am_L} {st : List Value} {σ : am_H} {Q : Option Value → am_H → Prop} : ax k_L_law 1092 ls st σ Q = ax k_L_law 1093 ls (.int 5 :: st) σ Q := ru_iconst f_L_law_1092 (by decide +kernel) rfl
set_option maxRecDepth 100000 in
theorem f_L_law_1093 : am_cd k_L_law 1093 = some ((some .boolean), .iadd, (0, 0, 0, 0, 0, .null)) := rfl
theorem s_L_law_1093 {ls : am_L} {st : List Value} {σ : am_H} {Q : Option Value → am_H → Prop} {x y : Int32} : ax k_L_law 1093 ls (.int y :: .int x :: st) σ Q = ax k_L_law 1094 ls (.int (x + y) :: st) σ Q := ru_pure f_L_law_1093 rfl rfl
set_option maxRecDepth 100000 in
theorem f_L_law_1094 : am_cd k_L_law 1094 = some ((some .boolean), .iaload, (0, 0, 0, 0, 0, .null)) := rfl
theorem s_L_law_1094 {ls : am_L} {st : List Value} {σ : am_H} {Q : Option Value → am_H → Prop} {a : Nat} {j : Int32} : ax k_L_law 1094 ls (.int j :: .ref a :: st) σ Q = ax_f (am_j σ a) (fun q => q.1 = 0 ∧ am_ix j q.2.1 ∧ ax k_L_law 1095 ls (.int (q.2.2 j.toNatClampNeg) :: st) σ Q) := rv_iald f_L_law_1094 rfl
set_option maxRecDepth 100000 in
theorem f_L_law_1095 : am_cd k_L_law 1095 = some ((some .boolean), .invokevirtual 109, (164, 5, 1308, 0, 11, .null)) := rfl
theorem s_L_law_1095 {ls : am_L} {st : List Value} {σ : am_H} {Q : Option Value → am_H → Prop} {p0 : Int32} {p1 : Int32} {p2 : Int32} {p3 : Int32} {p4 : Int32} {b : Nat} (hi : am_is σ b 11) (h8 : am_s8 st) : ax k_L_law 1095 ls (.int p4 :: .int p3 :: .int p2 :: .int p1 :: .int p0 :: .ref b :: st) σ Q = ax k_M_by 0 [some (.ref b), some (.int p0), some (.int p1), some (.int p2), some (.int p3), some (.int p4)] [] σ (ax_k k_L_law 1098 ls st Q) := ru_vir (M' := rk_M_by) f_L_law_1095 rfl rfl rfl rfl hi h8 rfl rfl rfl rfl rfl
set_option maxRecDepth 100000 in
theorem f_L_law_1098 : am_cd k_L_law 1098 = some ((some .boolean), .if_icmp .eq 292, (1390, 0, 0, 0, 0, .null)) := rfl
theorem s_L_law_1098 {ls : am_L} {st : List Value} {σ : am_H} {Q : Option Value → am_H → Prop} {x y : Int32} : ax k_L_law 1098 ls (.int y :: .int x :: st) σ Q = (if x = y then ax k_L_law 1390 ls st σ Q else ax k_L_law 1101 ls st σ Q) := (ru_icmp f_L_law_1098 rfl).trans (ru_i_eq _ _ _ _)
set_option maxRecDepth 100000 in
theorem f_L_law_1101 : am_cd k_L_law 1101 = some ((some .boolean), .iconst 0, (0, 0, 0, 0, 0, .null)) := rfl
theorem s_L_law_1101 {ls : am_L} {st : List Value} {σ : am_H} {Q : Option Value → am_H → Prop} : ax k_L_law 1101 ls st σ Q = ax k_L_law 1102 ls (.int 0 :: st) σ Q := ru_iconst f_L_law_1101 (by decide +kernel) rfl
set_option maxRecDepth 100000 in
theorem f_L_law_1102 : am_cd k_L_law 1102 = some ((some .boolean), .ireturn, (0, 0, 0, 0, 0, .null)) := rfl
theorem s_L_law_1102 {ls : am_L} {σ : am_H} {Q : Option Value → am_H → Prop} {v : Int32} : ax k_L_law 1102 ls ([.int v]) σ Q = (am_nar .boolean v = true ∧ Q (some (.int v)) σ) := ru_iret f_L_law_1102
set_option maxRecDepth 100000 in
theorem f_L_law_1103 : am_cd k_L_law 1103 = some ((some .boolean), .aload_n 1, (0, 0, 0, 0, 0, .null)) := rfl
theorem s_L_law_1103 {a0 a2 a3 : Option Value} {st : List Value} {σ : am_H} {Q : Option Value → am_H → Prop} {x : Nat} : ax k_L_law 1103 [a0, some (.ref x), a2, a3] st σ Q = ax k_L_law 1104 [a0, some (.ref x), a2, a3] (.ref x :: st) σ Q := ru_loc (q := (_, _)) f_L_law_1103 rfl rfl rfl
theorem s_L_law_1103n {a0 a2 a3 : Option Value} {st : List Value} {σ : am_H} {Q : Option Value → am_H → Prop} : ax k_L_law 1103 [a0, some .null, a2, a3] st σ Q = ax k_L_law 1104 [a0, some .null, a2, a3] (.null :: st) σ Q := ru_loc (q := (_, _)) f_L_law_1103 rfl rfl rfl
set_option maxRecDepth 100000 in
theorem f_L_law_1104 : am_cd k_L_law 1104 = some ((some .boolean), .aload_n 0, (0, 0, 0, 0, 0, .null)) := rfl
theorem s_L_law_1104 {a1 a2 a3 : Option Value} {st : List Value} {σ : am_H} {Q : Option Value → am_H → Prop} {x : Nat} : ax k_L_law 1104 [some (.ref x), a1, a2, a3] st σ Q = ax k_L_law 1105 [some (.ref x), a1, a2, a3] (.ref x :: st) σ Q := ru_loc (q := (_, _)) f_L_law_1104 rfl rfl rfl
set_option maxRecDepth 100000 in
theorem f_L_law_1105 : am_cd k_L_law 1105 = some ((some .boolean), .iload_n 3, (0, 0, 0, 0, 0, .null)) := rfl
theorem s_L_law_1105 {a0 a1 a2 : Option Value} {st : List Value} {σ : am_H} {Q : Option Value → am_H → Prop} {x : Int32} : ax k_L_law 1105 [a0, a1, a2, some (.int x)] st σ Q = ax k_L_law 1106 [a0, a1, a2, some (.int x)] (.int x :: st) σ Q := ru_loc (q := (_, _)) f_L_law_1105 rfl rfl rfl
set_option maxRecDepth 100000 in
theorem f_L_law_1106 : am_cd k_L_law 1106 = some ((some .boolean), .iconst 1, (0, 0, 0, 0, 0, .null)) := rfl
theorem s_L_law_1106 {ls : am_L} {st : List Value} {σ : am_H} {Q : Option Value → am_H → Prop} : ax k_L_law 1106 ls st σ Q = ax k_L_law 1107 ls (.int 1 :: st) σ Q := ru_iconst f_L_law_1106 (by decide +kernel) rfl
set_option maxRecDepth 100000 in
theorem f_L_law_1107 : am_cd k_L_law 1107 = some ((some .boolean), .iadd, (0, 0, 0, 0, 0, .null)) := rfl
theorem s_L_law_1107 {ls : am_L} {st : List Value} {σ : am_H} {Q : Option Value → am_H → Prop} {x y : Int32} : ax k_L_law 1107 ls (.int y :: .int x :: st) σ Q = ax k_L_law 1108 ls (.int (x + y) :: st) σ Q := ru_pure f_L_law_1107 rfl rfl
set_option maxRecDepth 100000 in
theorem f_L_law_1108 : am_cd k_L_law 1108 = some ((some .boolean), .iaload, (0, 0, 0, 0, 0, .null)) := rfl
theorem s_L_law_1108 {ls : am_L} {st : List Value} {σ : am_H} {Q : Option Value → am_H → Prop} {a : Nat} {j : Int32} : ax k_L_law 1108 ls (.int j :: .ref a :: st) σ Q = ax_f (am_j σ a) (fun q => q.1 = 0 ∧ am_ix j q.2.1 ∧ ax k_L_law 1109 ls (.int (q.2.2 j.toNatClampNeg) :: st) σ Q) := rv_iald f_L_law_1108 rfl
set_option maxRecDepth 100000 in
theorem f_L_law_1109 : am_cd k_L_law 1109 = some ((some .boolean), .aload_n 0, (0, 0, 0, 0, 0, .null)) := rfl
theorem s_L_law_1109 {a1 a2 a3 : Option Value} {st : List Value} {σ : am_H} {Q : Option Value → am_H → Prop} {x : Nat} : ax k_L_law 1109 [some (.ref x), a1, a2, a3] st σ Q = ax k_L_law 1110 [some (.ref x), a1, a2, a3] (.ref x :: st) σ Q := ru_loc (q := (_, _)) f_L_law_1109 rfl rfl rfl
set_option maxRecDepth 100000 in
theorem f_L_law_1110 : am_cd k_L_law 1110 = some ((some .boolean), .iload_n 3, (0, 0, 0, 0, 0, .null)) := rfl
theorem s_L_law_1110 {a0 a1 a2 : Option Value} {st : List Value} {σ : am_H} {Q : Option Value → am_H → Prop} {x : Int32} : ax k_L_law 1110 [a0, a1, a2, some (.int x)] st σ Q = ax k_L_law 1111 [a0, a1, a2, some (.int x)] (.int x :: st) σ Q := ru_loc (q := (_, _)) f_L_law_1110 rfl rfl rfl
set_option maxRecDepth 100000 in
theorem f_L_law_1111 : am_cd k_L_law 1111 = some ((some .boolean), .iconst 2, (0, 0, 0, 0, 0, .null)) := rfl
theorem s_L_law_1111 {ls : am_L} {st : List Value} {σ : am_H} {Q : Option Value → am_H → Prop} : ax k_L_law 1111 ls st σ Q = ax k_L_law 1112 ls (.int 2 :: st) σ Q := ru_iconst f_L_law_1111 (by decide +kernel) rfl
set_option maxRecDepth 100000 in
theorem f_L_law_1112 : am_cd k_L_law 1112 = some ((some .boolean), .iadd, (0, 0, 0, 0, 0, .null)) := rfl
theorem s_L_law_1112 {ls : am_L} {st : List Value} {σ : am_H} {Q : Option Value → am_H → Prop} {x y : Int32} : ax k_L_law 1112 ls (.int y :: .int x :: st) σ Q = ax k_L_law 1113 ls (.int (x + y) :: st) σ Q := ru_pure f_L_law_1112 rfl rfl
set_option maxRecDepth 100000 in
theorem f_L_law_1113 : am_cd k_L_law 1113 = some ((some .boolean), .iaload, (0, 0, 0, 0, 0, .null)) := rfl
theorem s_L_law_1113 {ls : am_L} {st : List Value} {σ : am_H} {Q : Option Value → am_H → Prop} {a : Nat} {j : Int32} : ax k_L_law 1113 ls (.int j :: .ref a :: st) σ Q = ax_f (am_j σ a) (fun q => q.1 = 0 ∧ am_ix j q.2.1 ∧ ax k_L_law 1114 ls (.int (q.2.2 j.toNatClampNeg) :: st) σ Q) := rv_iald f_L_law_1113 rfl
set_option maxRecDepth 100000 in
theorem f_L_law_1114 : am_cd k_L_law 1114 = some ((some .boolean), .invokevirtual 110, (91, 2, 770, 0, 10, .null)) := rfl
theorem s_L_law_1114 {ls : am_L} {st : List Value} {σ : am_H} {Q : Option Value → am_H → Prop} {p0 : Int32} {p1 : Int32} {b : Nat} (hi : am_is σ b 10) (h8 : am_s8 st) : ax k_L_law 1114 ls (.int p1 :: .int p0 :: .ref b :: st) σ Q = ax k_A_rate 0 [some (.ref b), some (.int p0), some (.int p1)] [] σ (ax_k k_L_law 1117 ls st Q) := ru_vir (M' := rk_A_rate) f_L_law_1114 rfl rfl rfl rfl hi h8 rfl rfl rfl rfl rfl
set_option maxRecDepth 100000 in
theorem f_L_law_1117 : am_cd k_L_law 1117 = some ((some .boolean), .aload_n 2, (0, 0, 0, 0, 0, .null)) := rfl
theorem s_L_law_1117 {a0 a1 a3 : Option Value} {st : List Value} {σ : am_H} {Q : Option Value → am_H → Prop} {x : Nat} : ax k_L_law 1117 [a0, a1, some (.ref x), a3] st σ Q = ax k_L_law 1118 [a0, a1, some (.ref x), a3] (.ref x :: st) σ Q := ru_loc (q := (_, _)) f_L_law_1117 rfl rfl rfl
theorem s_L_law_1117n {a0 a1 a3 : Option Value} {st : List Value} {σ : am_H} {Q : Option Value → am_H → Prop} : ax k_L_law 1117 [a0, a1, some .null, a3] st σ Q = ax k_L_law 1118 [a0, a1, some .null, a3] (.null :: st) σ Q := ru_loc (q := (_, _)) f_L_law_1117 rfl rfl rfl
set_option maxRecDepth 100000 in
theorem f_L_law_1118 : am_cd k_L_law 1118 = some ((some .boolean), .aload_n 0, (0, 0, 0, 0, 0, .null)) := rfl
theorem s_L_law_1118 {a1 a2 a3 : Option Value} {st : List Value} {σ : am_H} {Q : Option Value → am_H → Prop} {x : Nat} : ax k_L_law 1118 [some (.ref x), a1, a2, a3] st σ Q = ax k_L_law 1119 [some (.ref x), a1, a2, a3] (.ref x :: st) σ Q := ru_loc (q := (_, _)) f_L_law_1118 rfl rfl rfl
set_option maxRecDepth 100000 in
theorem f_L_law_1119 : am_cd k_L_law 1119 = some ((some .boolean), .iload_n 3, (0, 0, 0, 0, 0, .null)) := rfl
theorem s_L_law_1119 {a0 a1 a2 : Option Value} {st : List Value} {σ : am_H} {Q : Option Value → am_H → Prop} {x : Int32} : ax k_L_law 1119 [a0, a1, a2, some (.int x)] st σ Q = ax k_L_law 1120 [a0, a1, a2, some (.int x)] (.int x :: st) σ Q := ru_loc (q := (_, _)) f_L_law_1119 rfl rfl rfl
set_option maxRecDepth 100000 in
theorem f_L_law_1120 : am_cd k_L_law 1120 = some ((some .boolean), .iconst 1, (0, 0, 0, 0, 0, .null)) := rfl
theorem s_L_law_1120 {ls : am_L} {st : List Value} {σ : am_H} {Q : Option Value → am_H → Prop} : ax k_L_law 1120 ls st σ Q = ax k_L_law 1121 ls (.int 1 :: st) σ Q := ru_iconst f_L_law_1120 (by decide +kernel) rfl
set_option maxRecDepth 100000 in
theorem f_L_law_1121 : am_cd k_L_law 1121 = some ((some .boolean), .iadd, (0, 0, 0, 0, 0, .null)) := rfl
theorem s_L_law_1121 {ls : am_L} {st : List Value} {σ : am_H} {Q : Option Value → am_H → Prop} {x y : Int32} : ax k_L_law 1121 ls (.int y :: .int x :: st) σ Q = ax k_L_law 1122 ls (.int (x + y) :: st) σ Q := ru_pure f_L_law_1121 rfl rfl
set_option maxRecDepth 100000 in
theorem f_L_law_1122 : am_cd k_L_law 1122 = some ((some .boolean), .iaload, (0, 0, 0, 0, 0, .null)) := rfl
theorem s_L_law_1122 {ls : am_L} {st : List Value} {σ : am_H} {Q : Option Value → am_H → Prop} {a : Nat} {j : Int32} : ax k_L_law 1122 ls (.int j :: .ref a :: st) σ Q = ax_f (am_j σ a) (fun q => q.1 = 0 ∧ am_ix j q.2.1 ∧ ax k_L_law 1123 ls (.int (q.2.2 j.toNatClampNeg) :: st) σ Q) := rv_iald f_L_law_1122 rfl
set_option maxRecDepth 100000 in
theorem f_L_law_1123 : am_cd k_L_law 1123 = some ((some .boolean), .aload_n 0, (0, 0, 0, 0, 0, .null)) := rfl
theorem s_L_law_1123 {a1 a2 a3 : Option Value} {st : List Value} {σ : am_H} {Q : Option Value → am_H → Prop} {x : Nat} : ax k_L_law 1123 [some (.ref x), a1, a2, a3] st σ Q = ax k_L_law 1124 [some (.ref x), a1, a2, a3] (.ref x :: st) σ Q := ru_loc (q := (_, _)) f_L_law_1123 rfl rfl rfl
set_option maxRecDepth 100000 in
theorem f_L_law_1124 : am_cd k_L_law 1124 = some ((some .boolean), .iload_n 3, (0, 0, 0, 0, 0, .null)) := rfl
theorem s_L_law_1124 {a0 a1 a2 : Option Value} {st : List Value} {σ : am_H} {Q : Option Value → am_H → Prop} {x : Int32} : ax k_L_law 1124 [a0, a1, a2, some (.int x)] st σ Q = ax k_L_law 1125 [a0, a1, a2, some (.int x)] (.int x :: st) σ Q := ru_loc (q := (_, _)) f_L_law_1124 rfl rfl rfl
set_option maxRecDepth 100000 in
theorem f_L_law_1125 : am_cd k_L_law 1125 = some ((some .boolean), .iconst 2, (0, 0, 0, 0, 0, .null)) := rfl
theorem s_L_law_1125 {ls : am_L} {st : List Value} {σ : am_H} {Q : Option Value → am_H → Prop} : ax k_L_law 1125 ls st σ Q = ax k_L_law 1126 ls (.int 2 :: st) σ Q := ru_iconst f_L_law_1125 (by decide +kernel) rfl
set_option maxRecDepth 100000 in
theorem f_L_law_1126 : am_cd k_L_law 1126 = some ((some .boolean), .iadd, (0, 0, 0, 0, 0, .null)) := rfl
theorem s_L_law_1126 {ls : am_L} {st : List Value} {σ : am_H} {Q : Option Value → am_H → Prop} {x y : Int32} : ax k_L_law 1126 ls (.int y :: .int x :: st) σ Q = ax k_L_law 1127 ls (.int (x + y) :: st) σ Q := ru_pure f_L_law_1126 rfl rfl
set_option maxRecDepth 100000 in
theorem f_L_law_1127 : am_cd k_L_law 1127 = some ((some .boolean), .iaload, (0, 0, 0, 0, 0, .null)) := rfl
theorem s_L_law_1127 {ls : am_L} {st : List Value} {σ : am_H} {Q : Option Value → am_H → Prop} {a : Nat} {j : Int32} : ax k_L_law 1127 ls (.int j :: .ref a :: st) σ Q = ax_f (am_j σ a) (fun q => q.1 = 0 ∧ am_ix j q.2.1 ∧ ax k_L_law 1128 ls (.int (q.2.2 j.toNatClampNeg) :: st) σ Q) := rv_iald f_L_law_1127 rfl
set_option maxRecDepth 100000 in
theorem f_L_law_1128 : am_cd k_L_law 1128 = some ((some .boolean), .invokevirtual 113, (165, 2, 1312, 0, 11, .null)) := rfl
theorem s_L_law_1128 {ls : am_L} {st : List Value} {σ : am_H} {Q : Option Value → am_H → Prop} {p0 : Int32} {p1 : Int32} {b : Nat} (hi : am_is σ b 11) (h8 : am_s8 st) : ax k_L_law 1128 ls (.int p1 :: .int p0 :: .ref b :: st) σ Q = ax k_M_rate 0 [some (.ref b), some (.int p0), some (.int p1)] [] σ (ax_k k_L_law 1131 ls st Q) := ru_vir (M' := rk_M_rate) f_L_law_1128 rfl rfl rfl rfl hi h8 rfl rfl rfl rfl rfl
set_option maxRecDepth 100000 in
theorem f_L_law_1131 : am_cd k_L_law 1131 = some ((some .boolean), .if_icmp .eq 259, (1390, 0, 0, 0, 0, .null)) := rfl
theorem s_L_law_1131 {ls : am_L} {st : List Value} {σ : am_H} {Q : Option Value → am_H → Prop} {x y : Int32} : ax k_L_law 1131 ls (.int y :: .int x :: st) σ Q = (if x = y then ax k_L_law 1390 ls st σ Q else ax k_L_law 1134 ls st σ Q) := (ru_icmp f_L_law_1131 rfl).trans (ru_i_eq _ _ _ _)
set_option maxRecDepth 100000 in
theorem f_L_law_1134 : am_cd k_L_law 1134 = some ((some .boolean), .iconst 0, (0, 0, 0, 0, 0, .null)) := rfl
theorem s_L_law_1134 {ls : am_L} {st : List Value} {σ : am_H} {Q : Option Value → am_H → Prop} : ax k_L_law 1134 ls st σ Q = ax k_L_law 1135 ls (.int 0 :: st) σ Q := ru_iconst f_L_law_1134 (by decide +kernel) rfl
set_option maxRecDepth 100000 in
theorem f_L_law_1135 : am_cd k_L_law 1135 = some ((some .boolean), .ireturn, (0, 0, 0, 0, 0, .null)) := rfl
theorem s_L_law_1135 {ls : am_L} {σ : am_H} {Q : Option Value → am_H → Prop} {v : Int32} : ax k_L_law 1135 ls ([.int v]) σ Q = (am_nar .boolean v = true ∧ Q (some (.int v)) σ) := ru_iret f_L_law_1135
set_option maxRecDepth 100000 in
theorem f_L_law_1136 : am_cd k_L_law 1136 = some ((some .boolean), .aload_n 1, (0, 0, 0, 0, 0, .null)) := rfl
theorem s_L_law_1136 {a0 a2 a3 : Option Value} {st : List Value} {σ : am_H} {Q : Option Value → am_H → Prop} {x : Nat} : ax k_L_law 1136 [a0, some (.ref x), a2, a3] st σ Q = ax k_L_law 1137 [a0, some (.ref x), a2, a3] (.ref x :: st) σ Q := ru_loc (q := (_, _)) f_L_law_1136 rfl rfl rfl
theorem s_L_law_1136n {a0 a2 a3 : Option Value} {st : List Value} {σ : am_H} {Q : Option Value → am_H → Prop} : ax k_L_law 1136 [a0, some .null, a2, a3] st σ Q = ax k_L_law 1137 [a0, some .null, a2, a3] (.null :: st) σ Q := ru_loc (q := (_, _)) f_L_law_1136 rfl rfl rfl
set_option maxRecDepth 100000 in
theorem f_L_law_1137 : am_cd k_L_law 1137 = some ((some .boolean), .aload_n 0, (0, 0, 0, 0, 0, .null)) := rfl
theorem s_L_law_1137 {a1 a2 a3 : Option Value} {st : List Value} {σ : am_H} {Q : Option Value → am_H → Prop} {x : Nat} : ax k_L_law 1137 [some (.ref x), a1, a2, a3] st σ Q = ax k_L_law 1138 [some (.ref x), a1, a2, a3] (.ref x :: st) σ Q := ru_loc (q := (_, _)) f_L_law_1137 rfl rfl rfl
set_option maxRecDepth 100000 in
theorem f_L_law_1138 : am_cd k_L_law 1138 = some ((some .boolean), .iload_n 3, (0, 0, 0, 0, 0, .null)) := rfl
theorem s_L_law_1138 {a0 a1 a2 : Option Value} {st : List Value} {σ : am_H} {Q : Option Value → am_H → Prop} {x : Int32} : ax k_L_law 1138 [a0, a1, a2, some (.int x)] st σ Q = ax k_L_law 1139 [a0, a1, a2, some (.int x)] (.int x :: st) σ Q := ru_loc (q := (_, _)) f_L_law_1138 rfl rfl rfl
set_option maxRecDepth 100000 in
theorem f_L_law_1139 : am_cd k_L_law 1139 = some ((some .boolean), .iconst 1, (0, 0, 0, 0, 0, .null)) := rfl
theorem s_L_law_1139 {ls : am_L} {st : List Value} {σ : am_H} {Q : Option Value → am_H → Prop} : ax k_L_law 1139 ls st σ Q = ax k_L_law 1140 ls (.int 1 :: st) σ Q := ru_iconst f_L_law_1139 (by decide +kernel) rfl
set_option maxRecDepth 100000 in
theorem f_L_law_1140 : am_cd k_L_law 1140 = some ((some .boolean), .iadd, (0, 0, 0, 0, 0, .null)) := rfl
theorem s_L_law_1140 {ls : am_L} {st : List Value} {σ : am_H} {Q : Option Value → am_H → Prop} {x y : Int32} : ax k_L_law 1140 ls (.int y :: .int x :: st) σ Q = ax k_L_law 1141 ls (.int (x + y) :: st) σ Q := ru_pure f_L_law_1140 rfl rfl
set_option maxRecDepth 100000 in
theorem f_L_law_1141 : am_cd k_L_law 1141 = some ((some .boolean), .iaload, (0, 0, 0, 0, 0, .null)) := rfl
theorem s_L_law_1141 {ls : am_L} {st : List Value} {σ : am_H} {Q : Option Value → am_H → Prop} {a : Nat} {j : Int32} : ax k_L_law 1141 ls (.int j :: .ref a :: st) σ Q = ax_f (am_j σ a) (fun q => q.1 = 0 ∧ am_ix j q.2.1 ∧ ax k_L_law 1142 ls (.int (q.2.2 j.toNatClampNeg) :: st) σ Q) := rv_iald f_L_law_1141 rfl
set_option maxRecDepth 100000 in
theorem f_L_law_1142 : am_cd k_L_law 1142 = some ((some .boolean), .aload_n 0, (0, 0, 0, 0, 0, .null)) := rfl
theorem s_L_law_1142 {a1 a2 a3 : Option Value} {st : List Value} {σ : am_H} {Q : Option Value → am_H → Prop} {x : Nat} : ax k_L_law 1142 [some (.ref x), a1, a2, a3] st σ Q = ax k_L_law 1143 [some (.ref x), a1, a2, a3] (.ref x :: st) σ Q := ru_loc (q := (_, _)) f_L_law_1142 rfl rfl rfl
set_option maxRecDepth 100000 in
theorem f_L_law_1143 : am_cd k_L_law 1143 = some ((some .boolean), .iload_n 3, (0, 0, 0, 0, 0, .null)) := rfl
theorem s_L_law_1143 {a0 a1 a2 : Option Value} {st : List Value} {σ : am_H} {Q : Option Value → am_H → Prop} {x : Int32} : ax k_L_law 1143 [a0, a1, a2, some (.int x)] st σ Q = ax k_L_law 1144 [a0, a1, a2, some (.int x)] (.int x :: st) σ Q := ru_loc (q := (_, _)) f_L_law_1143 rfl rfl rfl
set_option maxRecDepth 100000 in
theorem f_L_law_1144 : am_cd k_L_law 1144 = some ((some .boolean), .iconst 2, (0, 0, 0, 0, 0, .null)) := rfl
theorem s_L_law_1144 {ls : am_L} {st : List Value} {σ : am_H} {Q : Option Value → am_H → Prop} : ax k_L_law 1144 ls st σ Q = ax k_L_law 1145 ls (.int 2 :: st) σ Q := ru_iconst f_L_law_1144 (by decide +kernel) rfl
set_option maxRecDepth 100000 in
theorem f_L_law_1145 : am_cd k_L_law 1145 = some ((some .boolean), .iadd, (0, 0, 0, 0, 0, .null)) := rfl
theorem s_L_law_1145 {ls : am_L} {st : List Value} {σ : am_H} {Q : Option Value → am_H → Prop} {x y : Int32} : ax k_L_law 1145 ls (.int y :: .int x :: st) σ Q = ax k_L_law 1146 ls (.int (x + y) :: st) σ Q := ru_pure f_L_law_1145 rfl rfl
set_option maxRecDepth 100000 in
theorem f_L_law_1146 : am_cd k_L_law 1146 = some ((some .boolean), .iaload, (0, 0, 0, 0, 0, .null)) := rfl
theorem s_L_law_1146 {ls : am_L} {st : List Value} {σ : am_H} {Q : Option Value → am_H → Prop} {a : Nat} {j : Int32} : ax k_L_law 1146 ls (.int j :: .ref a :: st) σ Q = ax_f (am_j σ a) (fun q => q.1 = 0 ∧ am_ix j q.2.1 ∧ ax k_L_law 1147 ls (.int (q.2.2 j.toNatClampNeg) :: st) σ Q) := rv_iald f_L_law_1146 rfl
set_option maxRecDepth 100000 in
theorem f_L_law_1147 : am_cd k_L_law 1147 = some ((some .boolean), .aload_n 0, (0, 0, 0, 0, 0, .null)) := rfl
theorem s_L_law_1147 {a1 a2 a3 : Option Value} {st : List Value} {σ : am_H} {Q : Option Value → am_H → Prop} {x : Nat} : ax k_L_law 1147 [some (.ref x), a1, a2, a3] st σ Q = ax k_L_law 1148 [some (.ref x), a1, a2, a3] (.ref x :: st) σ Q := ru_loc (q := (_, _)) f_L_law_1147 rfl rfl rfl
set_option maxRecDepth 100000 in
theorem f_L_law_1148 : am_cd k_L_law 1148 = some ((some .boolean), .iload_n 3, (0, 0, 0, 0, 0, .null)) := rfl
theorem s_L_law_1148 {a0 a1 a2 : Option Value} {st : List Value} {σ : am_H} {Q : Option Value → am_H → Prop} {x : Int32} : ax k_L_law 1148 [a0, a1, a2, some (.int x)] st σ Q = ax k_L_law 1149 [a0, a1, a2, some (.int x)] (.int x :: st) σ Q := ru_loc (q := (_, _)) f_L_law_1148 rfl rfl rfl
set_option maxRecDepth 100000 in
theorem f_L_law_1149 : am_cd k_L_law 1149 = some ((some .boolean), .iconst 3, (0, 0, 0, 0, 0, .null)) := rfl
theorem s_L_law_1149 {ls : am_L} {st : List Value} {σ : am_H} {Q : Option Value → am_H → Prop} : ax k_L_law 1149 ls st σ Q = ax k_L_law 1150 ls (.int 3 :: st) σ Q := ru_iconst f_L_law_1149 (by decide +kernel) rfl
set_option maxRecDepth 100000 in
theorem f_L_law_1150 : am_cd k_L_law 1150 = some ((some .boolean), .iadd, (0, 0, 0, 0, 0, .null)) := rfl
theorem s_L_law_1150 {ls : am_L} {st : List Value} {σ : am_H} {Q : Option Value → am_H → Prop} {x y : Int32} : ax k_L_law 1150 ls (.int y :: .int x :: st) σ Q = ax k_L_law 1151 ls (.int (x + y) :: st) σ Q := ru_pure f_L_law_1150 rfl rfl
set_option maxRecDepth 100000 in
theorem f_L_law_1151 : am_cd k_L_law 1151 = some ((some .boolean), .iaload, (0, 0, 0, 0, 0, .null)) := rfl
theorem s_L_law_1151 {ls : am_L} {st : List Value} {σ : am_H} {Q : Option Value → am_H → Prop} {a : Nat} {j : Int32} : ax k_L_law 1151 ls (.int j :: .ref a :: st) σ Q = ax_f (am_j σ a) (fun q => q.1 = 0 ∧ am_ix j q.2.1 ∧ ax k_L_law 1152 ls (.int (q.2.2 j.toNatClampNeg) :: st) σ Q) := rv_iald f_L_law_1151 rfl
set_option maxRecDepth 100000 in
theorem f_L_law_1152 : am_cd k_L_law 1152 = some ((some .boolean), .aload_n 0, (0, 0, 0, 0, 0, .null)) := rfl
theorem s_L_law_1152 {a1 a2 a3 : Option Value} {st : List Value} {σ : am_H} {Q : Option Value → am_H → Prop} {x : Nat} : ax k_L_law 1152 [some (.ref x), a1, a2, a3] st σ Q = ax k_L_law 1153 [some (.ref x), a1, a2, a3] (.ref x :: st) σ Q := ru_loc (q := (_, _)) f_L_law_1152 rfl rfl rfl
set_option maxRecDepth 100000 in
theorem f_L_law_1153 : am_cd k_L_law 1153 = some ((some .boolean), .iload_n 3, (0, 0, 0, 0, 0, .null)) := rfl
theorem s_L_law_1153 {a0 a1 a2 : Option Value} {st : List Value} {σ : am_H} {Q : Option Value → am_H → Prop} {x : Int32} : ax k_L_law 1153 [a0, a1, a2, some (.int x)] st σ Q = ax k_L_law 1154 [a0, a1, a2, some (.int x)] (.int x :: st) σ Q := ru_loc (q := (_, _)) f_L_law_1153 rfl rfl rfl
set_option maxRecDepth 100000 in
theorem f_L_law_1154 : am_cd k_L_law 1154 = some ((some .boolean), .iconst 4, (0, 0, 0, 0, 0, .null)) := rfl
theorem s_L_law_1154 {ls : am_L} {st : List Value} {σ : am_H} {Q : Option Value → am_H → Prop} : ax k_L_law 1154 ls st σ Q = ax k_L_law 1155 ls (.int 4 :: st) σ Q := ru_iconst f_L_law_1154 (by decide +kernel) rfl
set_option maxRecDepth 100000 in
theorem f_L_law_1155 : am_cd k_L_law 1155 = some ((some .boolean), .iadd, (0, 0, 0, 0, 0, .null)) := rfl
theorem s_L_law_1155 {ls : am_L} {st : List Value} {σ : am_H} {Q : Option Value → am_H → Prop} {x y : Int32} : ax k_L_law 1155 ls (.int y :: .int x :: st) σ Q = ax k_L_law 1156 ls (.int (x + y) :: st) σ Q := ru_pure f_L_law_1155 rfl rfl
set_option maxRecDepth 100000 in
theorem f_L_law_1156 : am_cd k_L_law 1156 = some ((some .boolean), .iaload, (0, 0, 0, 0, 0, .null)) := rfl
theorem s_L_law_1156 {ls : am_L} {st : List Value} {σ : am_H} {Q : Option Value → am_H → Prop} {a : Nat} {j : Int32} : ax k_L_law 1156 ls (.int j :: .ref a :: st) σ Q = ax_f (am_j σ a) (fun q => q.1 = 0 ∧ am_ix j q.2.1 ∧ ax k_L_law 1157 ls (.int (q.2.2 j.toNatClampNeg) :: st) σ Q) := rv_iald f_L_law_1156 rfl
set_option maxRecDepth 100000 in
theorem f_L_law_1157 : am_cd k_L_law 1157 = some ((some .boolean), .aload_n 0, (0, 0, 0, 0, 0, .null)) := rfl
theorem s_L_law_1157 {a1 a2 a3 : Option Value} {st : List Value} {σ : am_H} {Q : Option Value → am_H → Prop} {x : Nat} : ax k_L_law 1157 [some (.ref x), a1, a2, a3] st σ Q = ax k_L_law 1158 [some (.ref x), a1, a2, a3] (.ref x :: st) σ Q := ru_loc (q := (_, _)) f_L_law_1157 rfl rfl rfl
set_option maxRecDepth 100000 in
theorem f_L_law_1158 : am_cd k_L_law 1158 = some ((some .boolean), .iload_n 3, (0, 0, 0, 0, 0, .null)) := rfl
theorem s_L_law_1158 {a0 a1 a2 : Option Value} {st : List Value} {σ : am_H} {Q : Option Value → am_H → Prop} {x : Int32} : ax k_L_law 1158 [a0, a1, a2, some (.int x)] st σ Q = ax k_L_law 1159 [a0, a1, a2, some (.int x)] (.int x :: st) σ Q := ru_loc (q := (_, _)) f_L_law_1158 rfl rfl rfl
set_option maxRecDepth 100000 in
theorem f_L_law_1159 : am_cd k_L_law 1159 = some ((some .boolean), .iconst 5, (0, 0, 0, 0, 0, .null)) := rfl
theorem s_L_law_1159 {ls : am_L} {st : List Value} {σ : am_H} {Q : Option Value → am_H → Prop} : ax k_L_law 1159 ls st σ Q = ax k_L_law 1160 ls (.int 5 :: st) σ Q := ru_iconst f_L_law_1159 (by decide +kernel) rfl
set_option maxRecDepth 100000 in
theorem f_L_law_1160 : am_cd k_L_law 1160 = some ((some .boolean), .iadd, (0, 0, 0, 0, 0, .null)) := rfl
theorem s_L_law_1160 {ls : am_L} {st : List Value} {σ : am_H} {Q : Option Value → am_H → Prop} {x y : Int32} : ax k_L_law 1160 ls (.int y :: .int x :: st) σ Q = ax k_L_law 1161 ls (.int (x + y) :: st) σ Q := ru_pure f_L_law_1160 rfl rfl
set_option maxRecDepth 100000 in
theorem f_L_law_1161 : am_cd k_L_law 1161 = some ((some .boolean), .iaload, (0, 0, 0, 0, 0, .null)) := rfl
theorem s_L_law_1161 {ls : am_L} {st : List Value} {σ : am_H} {Q : Option Value → am_H → Prop} {a : Nat} {j : Int32} : ax k_L_law 1161 ls (.int j :: .ref a :: st) σ Q = ax_f (am_j σ a) (fun q => q.1 = 0 ∧ am_ix j q.2.1 ∧ ax k_L_law 1162 ls (.int (q.2.2 j.toNatClampNeg) :: st) σ Q) := rv_iald f_L_law_1161 rfl
set_option maxRecDepth 100000 in
theorem f_L_law_1162 : am_cd k_L_law 1162 = some ((some .boolean), .aload_n 0, (0, 0, 0, 0, 0, .null)) := rfl
theorem s_L_law_1162 {a1 a2 a3 : Option Value} {st : List Value} {σ : am_H} {Q : Option Value → am_H → Prop} {x : Nat} : ax k_L_law 1162 [some (.ref x), a1, a2, a3] st σ Q = ax k_L_law 1163 [some (.ref x), a1, a2, a3] (.ref x :: st) σ Q := ru_loc (q := (_, _)) f_L_law_1162 rfl rfl rfl
set_option maxRecDepth 100000 in
theorem f_L_law_1163 : am_cd k_L_law 1163 = some ((some .boolean), .iload_n 3, (0, 0, 0, 0, 0, .null)) := rfl
theorem s_L_law_1163 {a0 a1 a2 : Option Value} {st : List Value} {σ : am_H} {Q : Option Value → am_H → Prop} {x : Int32} : ax k_L_law 1163 [a0, a1, a2, some (.int x)] st σ Q = ax k_L_law 1164 [a0, a1, a2, some (.int x)] (.int x :: st) σ Q := ru_loc (q := (_, _)) f_L_law_1163 rfl rfl rfl
set_option maxRecDepth 100000 in
theorem f_L_law_1164 : am_cd k_L_law 1164 = some ((some .boolean), .bipush 6, (0, 0, 0, 0, 0, .null)) := rfl
theorem s_L_law_1164 {ls : am_L} {st : List Value} {σ : am_H} {Q : Option Value → am_H → Prop} : ax k_L_law 1164 ls st σ Q = ax k_L_law 1166 ls (.int 6 :: st) σ Q := ru_bipush f_L_law_1164 (by decide +kernel) rfl
set_option maxRecDepth 100000 in
theorem f_L_law_1166 : am_cd k_L_law 1166 = some ((some .boolean), .iadd, (0, 0, 0, 0, 0, .null)) := rfl
theorem s_L_law_1166 {ls : am_L} {st : List Value} {σ : am_H} {Q : Option Value → am_H → Prop} {x y : Int32} : ax k_L_law 1166 ls (.int y :: .int x :: st) σ Q = ax k_L_law 1167 ls (.int (x + y) :: st) σ Q := ru_pure f_L_law_1166 rfl rfl
set_option maxRecDepth 100000 in
theorem f_L_law_1167 : am_cd k_L_law 1167 = some ((some .boolean), .iaload, (0, 0, 0, 0, 0, .null)) := rfl
theorem s_L_law_1167 {ls : am_L} {st : List Value} {σ : am_H} {Q : Option Value → am_H → Prop} {a : Nat} {j : Int32} : ax k_L_law 1167 ls (.int j :: .ref a :: st) σ Q = ax_f (am_j σ a) (fun q => q.1 = 0 ∧ am_ix j q.2.1 ∧ ax k_L_law 1168 ls (.int (q.2.2 j.toNatClampNeg) :: st) σ Q) := rv_iald f_L_law_1167 rfl
set_option maxRecDepth 100000 in
theorem f_L_law_1168 : am_cd k_L_law 1168 = some ((some .boolean), .invokevirtual 114, (92, 6, 774, 0, 10, .null)) := rfl
theorem s_L_law_1168 {ls : am_L} {st : List Value} {σ : am_H} {Q : Option Value → am_H → Prop} {p0 : Int32} {p1 : Int32} {p2 : Int32} {p3 : Int32} {p4 : Int32} {p5 : Int32} {b : Nat} (hi : am_is σ b 10) (h8 : am_s8 st) : ax k_L_law 1168 ls (.int p5 :: .int p4 :: .int p3 :: .int p2 :: .int p1 :: .int p0 :: .ref b :: st) σ Q = ax k_A_sale 0 [some (.ref b), some (.int p0), some (.int p1), some (.int p2), some (.int p3), some (.int p4), some (.int p5), none, none] [] σ (ax_k k_L_law 1171 ls st Q) := ru_vir (M' := rk_A_sale) f_L_law_1168 rfl rfl rfl rfl hi h8 rfl rfl rfl rfl rfl
set_option maxRecDepth 100000 in
theorem f_L_law_1171 : am_cd k_L_law 1171 = some ((some .boolean), .aload_n 2, (0, 0, 0, 0, 0, .null)) := rfl
theorem s_L_law_1171 {a0 a1 a3 : Option Value} {st : List Value} {σ : am_H} {Q : Option Value → am_H → Prop} {x : Nat} : ax k_L_law 1171 [a0, a1, some (.ref x), a3] st σ Q = ax k_L_law 1172 [a0, a1, some (.ref x), a3] (.ref x :: st) σ Q := ru_loc (q := (_, _)) f_L_law_1171 rfl rfl rfl
theorem s_L_law_1171n {a0 a1 a3 : Option Value} {st : List Value} {σ : am_H} {Q : Option Value → am_H → Prop} : ax k_L_law 1171 [a0, a1, some .null, a3] st σ Q = ax k_L_law 1172 [a0, a1, some .null, a3] (.null :: st) σ Q := ru_loc (q := (_, _)) f_L_law_1171 rfl rfl rfl
set_option maxRecDepth 100000 in
theorem f_L_law_1172 : am_cd k_L_law 1172 = some ((some .boolean), .aload_n 0, (0, 0, 0, 0, 0, .null)) := rfl
theorem s_L_law_1172 {a1 a2 a3 : Option Value} {st : List Value} {σ : am_H} {Q : Option Value → am_H → Prop} {x : Nat} : ax k_L_law 1172 [some (.ref x), a1, a2, a3] st σ Q = ax k_L_law 1173 [some (.ref x), a1, a2, a3] (.ref x :: st) σ Q := ru_loc (q := (_, _)) f_L_law_1172 rfl rfl rfl
set_option maxRecDepth 100000 in
theorem f_L_law_1173 : am_cd k_L_law 1173 = some ((some .boolean), .iload_n 3, (0, 0, 0, 0, 0, .null)) := rfl
theorem s_L_law_1173 {a0 a1 a2 : Option Value} {st : List Value} {σ : am_H} {Q : Option Value → am_H → Prop} {x : Int32} : ax k_L_law 1173 [a0, a1, a2, some (.int x)] st σ Q = ax k_L_law 1174 [a0, a1, a2, some (.int x)] (.int x :: st) σ Q := ru_loc (q := (_, _)) f_L_law_1173 rfl rfl rfl
set_option maxRecDepth 100000 in
theorem f_L_law_1174 : am_cd k_L_law 1174 = some ((some .boolean), .iconst 1, (0, 0, 0, 0, 0, .null)) := rfl
theorem s_L_law_1174 {ls : am_L} {st : List Value} {σ : am_H} {Q : Option Value → am_H → Prop} : ax k_L_law 1174 ls st σ Q = ax k_L_law 1175 ls (.int 1 :: st) σ Q := ru_iconst f_L_law_1174 (by decide +kernel) rfl
set_option maxRecDepth 100000 in
theorem f_L_law_1175 : am_cd k_L_law 1175 = some ((some .boolean), .iadd, (0, 0, 0, 0, 0, .null)) := rfl
theorem s_L_law_1175 {ls : am_L} {st : List Value} {σ : am_H} {Q : Option Value → am_H → Prop} {x y : Int32} : ax k_L_law 1175 ls (.int y :: .int x :: st) σ Q = ax k_L_law 1176 ls (.int (x + y) :: st) σ Q := ru_pure f_L_law_1175 rfl rfl
set_option maxRecDepth 100000 in
theorem f_L_law_1176 : am_cd k_L_law 1176 = some ((some .boolean), .iaload, (0, 0, 0, 0, 0, .null)) := rfl
theorem s_L_law_1176 {ls : am_L} {st : List Value} {σ : am_H} {Q : Option Value → am_H → Prop} {a : Nat} {j : Int32} : ax k_L_law 1176 ls (.int j :: .ref a :: st) σ Q = ax_f (am_j σ a) (fun q => q.1 = 0 ∧ am_ix j q.2.1 ∧ ax k_L_law 1177 ls (.int (q.2.2 j.toNatClampNeg) :: st) σ Q) := rv_iald f_L_law_1176 rfl
set_option maxRecDepth 100000 in
theorem f_L_law_1177 : am_cd k_L_law 1177 = some ((some .boolean), .aload_n 0, (0, 0, 0, 0, 0, .null)) := rfl
theorem s_L_law_1177 {a1 a2 a3 : Option Value} {st : List Value} {σ : am_H} {Q : Option Value → am_H → Prop} {x : Nat} : ax k_L_law 1177 [some (.ref x), a1, a2, a3] st σ Q = ax k_L_law 1178 [some (.ref x), a1, a2, a3] (.ref x :: st) σ Q := ru_loc (q := (_, _)) f_L_law_1177 rfl rfl rfl
set_option maxRecDepth 100000 in
theorem f_L_law_1178 : am_cd k_L_law 1178 = some ((some .boolean), .iload_n 3, (0, 0, 0, 0, 0, .null)) := rfl
theorem s_L_law_1178 {a0 a1 a2 : Option Value} {st : List Value} {σ : am_H} {Q : Option Value → am_H → Prop} {x : Int32} : ax k_L_law 1178 [a0, a1, a2, some (.int x)] st σ Q = ax k_L_law 1179 [a0, a1, a2, some (.int x)] (.int x :: st) σ Q := ru_loc (q := (_, _)) f_L_law_1178 rfl rfl rfl
set_option maxRecDepth 100000 in
theorem f_L_law_1179 : am_cd k_L_law 1179 = some ((some .boolean), .iconst 2, (0, 0, 0, 0, 0, .null)) := rfl
theorem s_L_law_1179 {ls : am_L} {st : List Value} {σ : am_H} {Q : Option Value → am_H → Prop} : ax k_L_law 1179 ls st σ Q = ax k_L_law 1180 ls (.int 2 :: st) σ Q := ru_iconst f_L_law_1179 (by decide +kernel) rfl
set_option maxRecDepth 100000 in
theorem f_L_law_1180 : am_cd k_L_law 1180 = some ((some .boolean), .iadd, (0, 0, 0, 0, 0, .null)) := rfl
theorem s_L_law_1180 {ls : am_L} {st : List Value} {σ : am_H} {Q : Option Value → am_H → Prop} {x y : Int32} : ax k_L_law 1180 ls (.int y :: .int x :: st) σ Q = ax k_L_law 1181 ls (.int (x + y) :: st) σ Q := ru_pure f_L_law_1180 rfl rfl
set_option maxRecDepth 100000 in
theorem f_L_law_1181 : am_cd k_L_law 1181 = some ((some .boolean), .iaload, (0, 0, 0, 0, 0, .null)) := rfl
theorem s_L_law_1181 {ls : am_L} {st : List Value} {σ : am_H} {Q : Option Value → am_H → Prop} {a : Nat} {j : Int32} : ax k_L_law 1181 ls (.int j :: .ref a :: st) σ Q = ax_f (am_j σ a) (fun q => q.1 = 0 ∧ am_ix j q.2.1 ∧ ax k_L_law 1182 ls (.int (q.2.2 j.toNatClampNeg) :: st) σ Q) := rv_iald f_L_law_1181 rfl
set_option maxRecDepth 100000 in
theorem f_L_law_1182 : am_cd k_L_law 1182 = some ((some .boolean), .aload_n 0, (0, 0, 0, 0, 0, .null)) := rfl
theorem s_L_law_1182 {a1 a2 a3 : Option Value} {st : List Value} {σ : am_H} {Q : Option Value → am_H → Prop} {x : Nat} : ax k_L_law 1182 [some (.ref x), a1, a2, a3] st σ Q = ax k_L_law 1183 [some (.ref x), a1, a2, a3] (.ref x :: st) σ Q := ru_loc (q := (_, _)) f_L_law_1182 rfl rfl rfl
set_option maxRecDepth 100000 in
theorem f_L_law_1183 : am_cd k_L_law 1183 = some ((some .boolean), .iload_n 3, (0, 0, 0, 0, 0, .null)) := rfl
theorem s_L_law_1183 {a0 a1 a2 : Option Value} {st : List Value} {σ : am_H} {Q : Option Value → am_H → Prop} {x : Int32} : ax k_L_law 1183 [a0, a1, a2, some (.int x)] st σ Q = ax k_L_law 1184 [a0, a1, a2, some (.int x)] (.int x :: st) σ Q := ru_loc (q := (_, _)) f_L_law_1183 rfl rfl rfl
set_option maxRecDepth 100000 in
theorem f_L_law_1184 : am_cd k_L_law 1184 = some ((some .boolean), .iconst 3, (0, 0, 0, 0, 0, .null)) := rfl
theorem s_L_law_1184 {ls : am_L} {st : List Value} {σ : am_H} {Q : Option Value → am_H → Prop} : ax k_L_law 1184 ls st σ Q = ax k_L_law 1185 ls (.int 3 :: st) σ Q := ru_iconst f_L_law_1184 (by decide +kernel) rfl
set_option maxRecDepth 100000 in
theorem f_L_law_1185 : am_cd k_L_law 1185 = some ((some .boolean), .iadd, (0, 0, 0, 0, 0, .null)) := rfl
theorem s_L_law_1185 {ls : am_L} {st : List Value} {σ : am_H} {Q : Option Value → am_H → Prop} {x y : Int32} : ax k_L_law 1185 ls (.int y :: .int x :: st) σ Q = ax k_L_law 1186 ls (.int (x + y) :: st) σ Q := ru_pure f_L_law_1185 rfl rfl
set_option maxRecDepth 100000 in
theorem f_L_law_1186 : am_cd k_L_law 1186 = some ((some .boolean), .iaload, (0, 0, 0, 0, 0, .null)) := rfl
theorem s_L_law_1186 {ls : am_L} {st : List Value} {σ : am_H} {Q : Option Value → am_H → Prop} {a : Nat} {j : Int32} : ax k_L_law 1186 ls (.int j :: .ref a :: st) σ Q = ax_f (am_j σ a) (fun q => q.1 = 0 ∧ am_ix j q.2.1 ∧ ax k_L_law 1187 ls (.int (q.2.2 j.toNatClampNeg) :: st) σ Q) := rv_iald f_L_law_1186 rfl
set_option maxRecDepth 100000 in
theorem f_L_law_1187 : am_cd k_L_law 1187 = some ((some .boolean), .aload_n 0, (0, 0, 0, 0, 0, .null)) := rfl
theorem s_L_law_1187 {a1 a2 a3 : Option Value} {st : List Value} {σ : am_H} {Q : Option Value → am_H → Prop} {x : Nat} : ax k_L_law 1187 [some (.ref x), a1, a2, a3] st σ Q = ax k_L_law 1188 [some (.ref x), a1, a2, a3] (.ref x :: st) σ Q := ru_loc (q := (_, _)) f_L_law_1187 rfl rfl rfl
set_option maxRecDepth 100000 in
theorem f_L_law_1188 : am_cd k_L_law 1188 = some ((some .boolean), .iload_n 3, (0, 0, 0, 0, 0, .null)) := rfl
theorem s_L_law_1188 {a0 a1 a2 : Option Value} {st : List Value} {σ : am_H} {Q : Option Value → am_H → Prop} {x : Int32} : ax k_L_law 1188 [a0, a1, a2, some (.int x)] st σ Q = ax k_L_law 1189 [a0, a1, a2, some (.int x)] (.int x :: st) σ Q := ru_loc (q := (_, _)) f_L_law_1188 rfl rfl rfl
set_option maxRecDepth 100000 in
theorem f_L_law_1189 : am_cd k_L_law 1189 = some ((some .boolean), .iconst 4, (0, 0, 0, 0, 0, .null)) := rfl
theorem s_L_law_1189 {ls : am_L} {st : List Value} {σ : am_H} {Q : Option Value → am_H → Prop} : ax k_L_law 1189 ls st σ Q = ax k_L_law 1190 ls (.int 4 :: st) σ Q := ru_iconst f_L_law_1189 (by decide +kernel) rfl
set_option maxRecDepth 100000 in
theorem f_L_law_1190 : am_cd k_L_law 1190 = some ((some .boolean), .iadd, (0, 0, 0, 0, 0, .null)) := rfl
theorem s_L_law_1190 {ls : am_L} {st : List Value} {σ : am_H} {Q : Option Value → am_H → Prop} {x y : Int32} : ax k_L_law 1190 ls (.int y :: .int x :: st) σ Q = ax k_L_law 1191 ls (.int (x + y) :: st) σ Q := ru_pure f_L_law_1190 rfl rfl
set_option maxRecDepth 100000 in
theorem f_L_law_1191 : am_cd k_L_law 1191 = some ((some .boolean), .iaload, (0, 0, 0, 0, 0, .null)) := rfl
theorem s_L_law_1191 {ls : am_L} {st : List Value} {σ : am_H} {Q : Option Value → am_H → Prop} {a : Nat} {j : Int32} : ax k_L_law 1191 ls (.int j :: .ref a :: st) σ Q = ax_f (am_j σ a) (fun q => q.1 = 0 ∧ am_ix j q.2.1 ∧ ax k_L_law 1192 ls (.int (q.2.2 j.toNatClampNeg) :: st) σ Q) := rv_iald f_L_law_1191 rfl
set_option maxRecDepth 100000 in
theorem f_L_law_1192 : am_cd k_L_law 1192 = some ((some .boolean), .aload_n 0, (0, 0, 0, 0, 0, .null)) := rfl
theorem s_L_law_1192 {a1 a2 a3 : Option Value} {st : List Value} {σ : am_H} {Q : Option Value → am_H → Prop} {x : Nat} : ax k_L_law 1192 [some (.ref x), a1, a2, a3] st σ Q = ax k_L_law 1193 [some (.ref x), a1, a2, a3] (.ref x :: st) σ Q := ru_loc (q := (_, _)) f_L_law_1192 rfl rfl rfl
set_option maxRecDepth 100000 in
theorem f_L_law_1193 : am_cd k_L_law 1193 = some ((some .boolean), .iload_n 3, (0, 0, 0, 0, 0, .null)) := rfl
theorem s_L_law_1193 {a0 a1 a2 : Option Value} {st : List Value} {σ : am_H} {Q : Option Value → am_H → Prop} {x : Int32} : ax k_L_law 1193 [a0, a1, a2, some (.int x)] st σ Q = ax k_L_law 1194 [a0, a1, a2, some (.int x)] (.int x :: st) σ Q := ru_loc (q := (_, _)) f_L_law_1193 rfl rfl rfl
set_option maxRecDepth 100000 in
theorem f_L_law_1194 : am_cd k_L_law 1194 = some ((some .boolean), .iconst 5, (0, 0, 0, 0, 0, .null)) := rfl
theorem s_L_law_1194 {ls : am_L} {st : List Value} {σ : am_H} {Q : Option Value → am_H → Prop} : ax k_L_law 1194 ls st σ Q = ax k_L_law 1195 ls (.int 5 :: st) σ Q := ru_iconst f_L_law_1194 (by decide +kernel) rfl
set_option maxRecDepth 100000 in
theorem f_L_law_1195 : am_cd k_L_law 1195 = some ((some .boolean), .iadd, (0, 0, 0, 0, 0, .null)) := rfl
theorem s_L_law_1195 {ls : am_L} {st : List Value} {σ : am_H} {Q : Option Value → am_H → Prop} {x y : Int32} : ax k_L_law 1195 ls (.int y :: .int x :: st) σ Q = ax k_L_law 1196 ls (.int (x + y) :: st) σ Q := ru_pure f_L_law_1195 rfl rfl
set_option maxRecDepth 100000 in
theorem f_L_law_1196 : am_cd k_L_law 1196 = some ((some .boolean), .iaload, (0, 0, 0, 0, 0, .null)) := rfl
theorem s_L_law_1196 {ls : am_L} {st : List Value} {σ : am_H} {Q : Option Value → am_H → Prop} {a : Nat} {j : Int32} : ax k_L_law 1196 ls (.int j :: .ref a :: st) σ Q = ax_f (am_j σ a) (fun q => q.1 = 0 ∧ am_ix j q.2.1 ∧ ax k_L_law 1197 ls (.int (q.2.2 j.toNatClampNeg) :: st) σ Q) := rv_iald f_L_law_1196 rfl
set_option maxRecDepth 100000 in
theorem f_L_law_1197 : am_cd k_L_law 1197 = some ((some .boolean), .aload_n 0, (0, 0, 0, 0, 0, .null)) := rfl
theorem s_L_law_1197 {a1 a2 a3 : Option Value} {st : List Value} {σ : am_H} {Q : Option Value → am_H → Prop} {x : Nat} : ax k_L_law 1197 [some (.ref x), a1, a2, a3] st σ Q = ax k_L_law 1198 [some (.ref x), a1, a2, a3] (.ref x :: st) σ Q := ru_loc (q := (_, _)) f_L_law_1197 rfl rfl rfl
set_option maxRecDepth 100000 in
theorem f_L_law_1198 : am_cd k_L_law 1198 = some ((some .boolean), .iload_n 3, (0, 0, 0, 0, 0, .null)) := rfl
theorem s_L_law_1198 {a0 a1 a2 : Option Value} {st : List Value} {σ : am_H} {Q : Option Value → am_H → Prop} {x : Int32} : ax k_L_law 1198 [a0, a1, a2, some (.int x)] st σ Q = ax k_L_law 1199 [a0, a1, a2, some (.int x)] (.int x :: st) σ Q := ru_loc (q := (_, _)) f_L_law_1198 rfl rfl rfl
set_option maxRecDepth 100000 in
theorem f_L_law_1199 : am_cd k_L_law 1199 = some ((some .boolean), .bipush 6, (0, 0, 0, 0, 0, .null)) := rfl
theorem s_L_law_1199 {ls : am_L} {st : List Value} {σ : am_H} {Q : Option Value → am_H → Prop} : ax k_L_law 1199 ls st σ Q = ax k_L_law 1201 ls (.int 6 :: st) σ Q := ru_bipush f_L_law_1199 (by decide +kernel) rfl
set_option maxRecDepth 100000 in
theorem f_L_law_1201 : am_cd k_L_law 1201 = some ((some .boolean), .iadd, (0, 0, 0, 0, 0, .null)) := rfl
theorem s_L_law_1201 {ls : am_L} {st : List Value} {σ : am_H} {Q : Option Value → am_H → Prop} {x y : Int32} : ax k_L_law 1201 ls (.int y :: .int x :: st) σ Q = ax k_L_law 1202 ls (.int (x + y) :: st) σ Q := ru_pure f_L_law_1201 rfl rfl
set_option maxRecDepth 100000 in
theorem f_L_law_1202 : am_cd k_L_law 1202 = some ((some .boolean), .iaload, (0, 0, 0, 0, 0, .null)) := rfl
theorem s_L_law_1202 {ls : am_L} {st : List Value} {σ : am_H} {Q : Option Value → am_H → Prop} {a : Nat} {j : Int32} : ax k_L_law 1202 ls (.int j :: .ref a :: st) σ Q = ax_f (am_j σ a) (fun q => q.1 = 0 ∧ am_ix j q.2.1 ∧ ax k_L_law 1203 ls (.int (q.2.2 j.toNatClampNeg) :: st) σ Q) := rv_iald f_L_law_1202 rfl
set_option maxRecDepth 100000 in
theorem f_L_law_1203 : am_cd k_L_law 1203 = some ((some .boolean), .invokevirtual 118, (166, 6, 1316, 0, 11, .null)) := rfl
theorem s_L_law_1203 {ls : am_L} {st : List Value} {σ : am_H} {Q : Option Value → am_H → Prop} {p0 : Int32} {p1 : Int32} {p2 : Int32} {p3 : Int32} {p4 : Int32} {p5 : Int32} {b : Nat} (hi : am_is σ b 11) (h8 : am_s8 st) : ax k_L_law 1203 ls (.int p5 :: .int p4 :: .int p3 :: .int p2 :: .int p1 :: .int p0 :: .ref b :: st) σ Q = ax k_M_sale 0 [some (.ref b), some (.int p0), some (.int p1), some (.int p2), some (.int p3), some (.int p4), some (.int p5), none, none, none] [] σ (ax_k k_L_law 1206 ls st Q) := ru_vir (M' := rk_M_sale) f_L_law_1203 rfl rfl rfl rfl hi h8 rfl rfl rfl rfl rfl
set_option maxRecDepth 100000 in
theorem f_L_law_1206 : am_cd k_L_law 1206 = some ((some .boolean), .if_icmp .eq 184, (1390, 0, 0, 0, 0, .null)) := rfl
theorem s_L_law_1206 {ls : am_L} {st : List Value} {σ : am_H} {Q : Option Value → am_H → Prop} {x y : Int32} : ax k_L_law 1206 ls (.int y :: .int x :: st) σ Q = (if x = y then ax k_L_law 1390 ls st σ Q else ax k_L_law 1209 ls st σ Q) := (ru_icmp f_L_law_1206 rfl).trans (ru_i_eq _ _ _ _)
set_option maxRecDepth 100000 in
theorem f_L_law_1209 : am_cd k_L_law 1209 = some ((some .boolean), .iconst 0, (0, 0, 0, 0, 0, .null)) := rfl
theorem s_L_law_1209 {ls : am_L} {st : List Value} {σ : am_H} {Q : Option Value → am_H → Prop} : ax k_L_law 1209 ls st σ Q = ax k_L_law 1210 ls (.int 0 :: st) σ Q := ru_iconst f_L_law_1209 (by decide +kernel) rfl
set_option maxRecDepth 100000 in
theorem f_L_law_1210 : am_cd k_L_law 1210 = some ((some .boolean), .ireturn, (0, 0, 0, 0, 0, .null)) := rfl
theorem s_L_law_1210 {ls : am_L} {σ : am_H} {Q : Option Value → am_H → Prop} {v : Int32} : ax k_L_law 1210 ls ([.int v]) σ Q = (am_nar .boolean v = true ∧ Q (some (.int v)) σ) := ru_iret f_L_law_1210
set_option maxRecDepth 100000 in
theorem f_L_law_1211 : am_cd k_L_law 1211 = some ((some .boolean), .aload_n 1, (0, 0, 0, 0, 0, .null)) := rfl
theorem s_L_law_1211 {a0 a2 a3 : Option Value} {st : List Value} {σ : am_H} {Q : Option Value → am_H → Prop} {x : Nat} : ax k_L_law 1211 [a0, some (.ref x), a2, a3] st σ Q = ax k_L_law 1212 [a0, some (.ref x), a2, a3] (.ref x :: st) σ Q := ru_loc (q := (_, _)) f_L_law_1211 rfl rfl rfl
theorem s_L_law_1211n {a0 a2 a3 : Option Value} {st : List Value} {σ : am_H} {Q : Option Value → am_H → Prop} : ax k_L_law 1211 [a0, some .null, a2, a3] st σ Q = ax k_L_law 1212 [a0, some .null, a2, a3] (.null :: st) σ Q := ru_loc (q := (_, _)) f_L_law_1211 rfl rfl rfl
set_option maxRecDepth 100000 in
theorem f_L_law_1212 : am_cd k_L_law 1212 = some ((some .boolean), .aload_n 0, (0, 0, 0, 0, 0, .null)) := rfl
theorem s_L_law_1212 {a1 a2 a3 : Option Value} {st : List Value} {σ : am_H} {Q : Option Value → am_H → Prop} {x : Nat} : ax k_L_law 1212 [some (.ref x), a1, a2, a3] st σ Q = ax k_L_law 1213 [some (.ref x), a1, a2, a3] (.ref x :: st) σ Q := ru_loc (q := (_, _)) f_L_law_1212 rfl rfl rfl
set_option maxRecDepth 100000 in
theorem f_L_law_1213 : am_cd k_L_law 1213 = some ((some .boolean), .iload_n 3, (0, 0, 0, 0, 0, .null)) := rfl
theorem s_L_law_1213 {a0 a1 a2 : Option Value} {st : List Value} {σ : am_H} {Q : Option Value → am_H → Prop} {x : Int32} : ax k_L_law 1213 [a0, a1, a2, some (.int x)] st σ Q = ax k_L_law 1214 [a0, a1, a2, some (.int x)] (.int x :: st) σ Q := ru_loc (q := (_, _)) f_L_law_1213 rfl rfl rfl
set_option maxRecDepth 100000 in
theorem f_L_law_1214 : am_cd k_L_law 1214 = some ((some .boolean), .iconst 1, (0, 0, 0, 0, 0, .null)) := rfl
theorem s_L_law_1214 {ls : am_L} {st : List Value} {σ : am_H} {Q : Option Value → am_H → Prop} : ax k_L_law 1214 ls st σ Q = ax k_L_law 1215 ls (.int 1 :: st) σ Q := ru_iconst f_L_law_1214 (by decide +kernel) rfl
set_option maxRecDepth 100000 in
theorem f_L_law_1215 : am_cd k_L_law 1215 = some ((some .boolean), .iadd, (0, 0, 0, 0, 0, .null)) := rfl
theorem s_L_law_1215 {ls : am_L} {st : List Value} {σ : am_H} {Q : Option Value → am_H → Prop} {x y : Int32} : ax k_L_law 1215 ls (.int y :: .int x :: st) σ Q = ax k_L_law 1216 ls (.int (x + y) :: st) σ Q := ru_pure f_L_law_1215 rfl rfl
set_option maxRecDepth 100000 in
theorem f_L_law_1216 : am_cd k_L_law 1216 = some ((some .boolean), .iaload, (0, 0, 0, 0, 0, .null)) := rfl
theorem s_L_law_1216 {ls : am_L} {st : List Value} {σ : am_H} {Q : Option Value → am_H → Prop} {a : Nat} {j : Int32} : ax k_L_law 1216 ls (.int j :: .ref a :: st) σ Q = ax_f (am_j σ a) (fun q => q.1 = 0 ∧ am_ix j q.2.1 ∧ ax k_L_law 1217 ls (.int (q.2.2 j.toNatClampNeg) :: st) σ Q) := rv_iald f_L_law_1216 rfl
set_option maxRecDepth 100000 in
theorem f_L_law_1217 : am_cd k_L_law 1217 = some ((some .boolean), .invokevirtual 119, (93, 1, 862, 0, 10, .null)) := rfl
theorem s_L_law_1217 {ls : am_L} {st : List Value} {σ : am_H} {Q : Option Value → am_H → Prop} {p0 : Int32} {b : Nat} (hi : am_is σ b 10) (h8 : am_s8 st) : ax k_L_law 1217 ls (.int p0 :: .ref b :: st) σ Q = ax k_A_strike 0 [some (.ref b), some (.int p0), none] [] σ (ax_k k_L_law 1220 ls st Q) := ru_vir (M' := rk_A_strike) f_L_law_1217 rfl rfl rfl rfl hi h8 rfl rfl rfl rfl rfl
set_option maxRecDepth 100000 in
theorem f_L_law_1220 : am_cd k_L_law 1220 = some ((some .boolean), .aload_n 2, (0, 0, 0, 0, 0, .null)) := rfl
theorem s_L_law_1220 {a0 a1 a3 : Option Value} {st : List Value} {σ : am_H} {Q : Option Value → am_H → Prop} {x : Nat} : ax k_L_law 1220 [a0, a1, some (.ref x), a3] st σ Q = ax k_L_law 1221 [a0, a1, some (.ref x), a3] (.ref x :: st) σ Q := ru_loc (q := (_, _)) f_L_law_1220 rfl rfl rfl
theorem s_L_law_1220n {a0 a1 a3 : Option Value} {st : List Value} {σ : am_H} {Q : Option Value → am_H → Prop} : ax k_L_law 1220 [a0, a1, some .null, a3] st σ Q = ax k_L_law 1221 [a0, a1, some .null, a3] (.null :: st) σ Q := ru_loc (q := (_, _)) f_L_law_1220 rfl rfl rfl
set_option maxRecDepth 100000 in
theorem f_L_law_1221 : am_cd k_L_law 1221 = some ((some .boolean), .aload_n 0, (0, 0, 0, 0, 0, .null)) := rfl
theorem s_L_law_1221 {a1 a2 a3 : Option Value} {st : List Value} {σ : am_H} {Q : Option Value → am_H → Prop} {x : Nat} : ax k_L_law 1221 [some (.ref x), a1, a2, a3] st σ Q = ax k_L_law 1222 [some (.ref x), a1, a2, a3] (.ref x :: st) σ Q := ru_loc (q := (_, _)) f_L_law_1221 rfl rfl rfl
set_option maxRecDepth 100000 in
theorem f_L_law_1222 : am_cd k_L_law 1222 = some ((some .boolean), .iload_n 3, (0, 0, 0, 0, 0, .null)) := rfl
theorem s_L_law_1222 {a0 a1 a2 : Option Value} {st : List Value} {σ : am_H} {Q : Option Value → am_H → Prop} {x : Int32} : ax k_L_law 1222 [a0, a1, a2, some (.int x)] st σ Q = ax k_L_law 1223 [a0, a1, a2, some (.int x)] (.int x :: st) σ Q := ru_loc (q := (_, _)) f_L_law_1222 rfl rfl rfl
set_option maxRecDepth 100000 in
theorem f_L_law_1223 : am_cd k_L_law 1223 = some ((some .boolean), .iconst 1, (0, 0, 0, 0, 0, .null)) := rfl
theorem s_L_law_1223 {ls : am_L} {st : List Value} {σ : am_H} {Q : Option Value → am_H → Prop} : ax k_L_law 1223 ls st σ Q = ax k_L_law 1224 ls (.int 1 :: st) σ Q := ru_iconst f_L_law_1223 (by decide +kernel) rfl
set_option maxRecDepth 100000 in
theorem f_L_law_1224 : am_cd k_L_law 1224 = some ((some .boolean), .iadd, (0, 0, 0, 0, 0, .null)) := rfl
theorem s_L_law_1224 {ls : am_L} {st : List Value} {σ : am_H} {Q : Option Value → am_H → Prop} {x y : Int32} : ax k_L_law 1224 ls (.int y :: .int x :: st) σ Q = ax k_L_law 1225 ls (.int (x + y) :: st) σ Q := ru_pure f_L_law_1224 rfl rfl
set_option maxRecDepth 100000 in
theorem f_L_law_1225 : am_cd k_L_law 1225 = some ((some .boolean), .iaload, (0, 0, 0, 0, 0, .null)) := rfl
theorem s_L_law_1225 {ls : am_L} {st : List Value} {σ : am_H} {Q : Option Value → am_H → Prop} {a : Nat} {j : Int32} : ax k_L_law 1225 ls (.int j :: .ref a :: st) σ Q = ax_f (am_j σ a) (fun q => q.1 = 0 ∧ am_ix j q.2.1 ∧ ax k_L_law 1226 ls (.int (q.2.2 j.toNatClampNeg) :: st) σ Q) := rv_iald f_L_law_1225 rfl
set_option maxRecDepth 100000 in
theorem f_L_law_1226 : am_cd k_L_law 1226 = some ((some .boolean), .invokevirtual 122, (167, 1, 1321, 0, 11, .null)) := rfl
theorem s_L_law_1226 {ls : am_L} {st : List Value} {σ : am_H} {Q : Option Value → am_H → Prop} {p0 : Int32} {b : Nat} (hi : am_is σ b 11) (h8 : am_s8 st) : ax k_L_law 1226 ls (.int p0 :: .ref b :: st) σ Q = ax k_M_strike 0 [some (.ref b), some (.int p0)] [] σ (ax_k k_L_law 1229 ls st Q) := ru_vir (M' := rk_M_strike) f_L_law_1226 rfl rfl rfl rfl hi h8 rfl rfl rfl rfl rfl
set_option maxRecDepth 100000 in
theorem f_L_law_1229 : am_cd k_L_law 1229 = some ((some .boolean), .if_icmp .eq 161, (1390, 0, 0, 0, 0, .null)) := rfl
theorem s_L_law_1229 {ls : am_L} {st : List Value} {σ : am_H} {Q : Option Value → am_H → Prop} {x y : Int32} : ax k_L_law 1229 ls (.int y :: .int x :: st) σ Q = (if x = y then ax k_L_law 1390 ls st σ Q else ax k_L_law 1232 ls st σ Q) := (ru_icmp f_L_law_1229 rfl).trans (ru_i_eq _ _ _ _)
set_option maxRecDepth 100000 in
theorem f_L_law_1232 : am_cd k_L_law 1232 = some ((some .boolean), .iconst 0, (0, 0, 0, 0, 0, .null)) := rfl
theorem s_L_law_1232 {ls : am_L} {st : List Value} {σ : am_H} {Q : Option Value → am_H → Prop} : ax k_L_law 1232 ls st σ Q = ax k_L_law 1233 ls (.int 0 :: st) σ Q := ru_iconst f_L_law_1232 (by decide +kernel) rfl
set_option maxRecDepth 100000 in
theorem f_L_law_1233 : am_cd k_L_law 1233 = some ((some .boolean), .ireturn, (0, 0, 0, 0, 0, .null)) := rfl
theorem s_L_law_1233 {ls : am_L} {σ : am_H} {Q : Option Value → am_H → Prop} {v : Int32} : ax k_L_law 1233 ls ([.int v]) σ Q = (am_nar .boolean v = true ∧ Q (some (.int v)) σ) := ru_iret f_L_law_1233
set_option maxRecDepth 100000 in
theorem f_L_law_1234 : am_cd k_L_law 1234 = some ((some .boolean), .aload_n 1, (0, 0, 0, 0, 0, .null)) := rfl
theorem s_L_law_1234 {a0 a2 a3 : Option Value} {st : List Value} {σ : am_H} {Q : Option Value → am_H → Prop} {x : Nat} : ax k_L_law 1234 [a0, some (.ref x), a2, a3] st σ Q = ax k_L_law 1235 [a0, some (.ref x), a2, a3] (.ref x :: st) σ Q := ru_loc (q := (_, _)) f_L_law_1234 rfl rfl rfl
theorem s_L_law_1234n {a0 a2 a3 : Option Value} {st : List Value} {σ : am_H} {Q : Option Value → am_H → Prop} : ax k_L_law 1234 [a0, some .null, a2, a3] st σ Q = ax k_L_law 1235 [a0, some .null, a2, a3] (.null :: st) σ Q := ru_loc (q := (_, _)) f_L_law_1234 rfl rfl rfl
set_option maxRecDepth 100000 in
theorem f_L_law_1235 : am_cd k_L_law 1235 = some ((some .boolean), .aload_n 0, (0, 0, 0, 0, 0, .null)) := rfl
theorem s_L_law_1235 {a1 a2 a3 : Option Value} {st : List Value} {σ : am_H} {Q : Option Value → am_H → Prop} {x : Nat} : ax k_L_law 1235 [some (.ref x), a1, a2, a3] st σ Q = ax k_L_law 1236 [some (.ref x), a1, a2, a3] (.ref x :: st) σ Q := ru_loc (q := (_, _)) f_L_law_1235 rfl rfl rfl
set_option maxRecDepth 100000 in
theorem f_L_law_1236 : am_cd k_L_law 1236 = some ((some .boolean), .iload_n 3, (0, 0, 0, 0, 0, .null)) := rfl
theorem s_L_law_1236 {a0 a1 a2 : Option Value} {st : List Value} {σ : am_H} {Q : Option Value → am_H → Prop} {x : Int32} : ax k_L_law 1236 [a0, a1, a2, some (.int x)] st σ Q = ax k_L_law 1237 [a0, a1, a2, some (.int x)] (.int x :: st) σ Q := ru_loc (q := (_, _)) f_L_law_1236 rfl rfl rfl
set_option maxRecDepth 100000 in
theorem f_L_law_1237 : am_cd k_L_law 1237 = some ((some .boolean), .iconst 1, (0, 0, 0, 0, 0, .null)) := rfl
theorem s_L_law_1237 {ls : am_L} {st : List Value} {σ : am_H} {Q : Option Value → am_H → Prop} : ax k_L_law 1237 ls st σ Q = ax k_L_law 1238 ls (.int 1 :: st) σ Q := ru_iconst f_L_law_1237 (by decide +kernel) rfl
set_option maxRecDepth 100000 in
theorem f_L_law_1238 : am_cd k_L_law 1238 = some ((some .boolean), .iadd, (0, 0, 0, 0, 0, .null)) := rfl
theorem s_L_law_1238 {ls : am_L} {st : List Value} {σ : am_H} {Q : Option Value → am_H → Prop} {x y : Int32} : ax k_L_law 1238 ls (.int y :: .int x :: st) σ Q = ax k_L_law 1239 ls (.int (x + y) :: st) σ Q := ru_pure f_L_law_1238 rfl rfl
set_option maxRecDepth 100000 in
theorem f_L_law_1239 : am_cd k_L_law 1239 = some ((some .boolean), .iaload, (0, 0, 0, 0, 0, .null)) := rfl
theorem s_L_law_1239 {ls : am_L} {st : List Value} {σ : am_H} {Q : Option Value → am_H → Prop} {a : Nat} {j : Int32} : ax k_L_law 1239 ls (.int j :: .ref a :: st) σ Q = ax_f (am_j σ a) (fun q => q.1 = 0 ∧ am_ix j q.2.1 ∧ ax k_L_law 1240 ls (.int (q.2.2 j.toNatClampNeg) :: st) σ Q) := rv_iald f_L_law_1239 rfl
set_option maxRecDepth 100000 in
theorem f_L_law_1240 : am_cd k_L_law 1240 = some ((some .boolean), .aload_n 0, (0, 0, 0, 0, 0, .null)) := rfl
theorem s_L_law_1240 {a1 a2 a3 : Option Value} {st : List Value} {σ : am_H} {Q : Option Value → am_H → Prop} {x : Nat} : ax k_L_law 1240 [some (.ref x), a1, a2, a3] st σ Q = ax k_L_law 1241 [some (.ref x), a1, a2, a3] (.ref x :: st) σ Q := ru_loc (q := (_, _)) f_L_law_1240 rfl rfl rfl
set_option maxRecDepth 100000 in
theorem f_L_law_1241 : am_cd k_L_law 1241 = some ((some .boolean), .iload_n 3, (0, 0, 0, 0, 0, .null)) := rfl
theorem s_L_law_1241 {a0 a1 a2 : Option Value} {st : List Value} {σ : am_H} {Q : Option Value → am_H → Prop} {x : Int32} : ax k_L_law 1241 [a0, a1, a2, some (.int x)] st σ Q = ax k_L_law 1242 [a0, a1, a2, some (.int x)] (.int x :: st) σ Q := ru_loc (q := (_, _)) f_L_law_1241 rfl rfl rfl
set_option maxRecDepth 100000 in
theorem f_L_law_1242 : am_cd k_L_law 1242 = some ((some .boolean), .iconst 2, (0, 0, 0, 0, 0, .null)) := rfl
theorem s_L_law_1242 {ls : am_L} {st : List Value} {σ : am_H} {Q : Option Value → am_H → Prop} : ax k_L_law 1242 ls st σ Q = ax k_L_law 1243 ls (.int 2 :: st) σ Q := ru_iconst f_L_law_1242 (by decide +kernel) rfl
set_option maxRecDepth 100000 in
theorem f_L_law_1243 : am_cd k_L_law 1243 = some ((some .boolean), .iadd, (0, 0, 0, 0, 0, .null)) := rfl
theorem s_L_law_1243 {ls : am_L} {st : List Value} {σ : am_H} {Q : Option Value → am_H → Prop} {x y : Int32} : ax k_L_law 1243 ls (.int y :: .int x :: st) σ Q = ax k_L_law 1244 ls (.int (x + y) :: st) σ Q := ru_pure f_L_law_1243 rfl rfl
set_option maxRecDepth 100000 in
theorem f_L_law_1244 : am_cd k_L_law 1244 = some ((some .boolean), .iaload, (0, 0, 0, 0, 0, .null)) := rfl
theorem s_L_law_1244 {ls : am_L} {st : List Value} {σ : am_H} {Q : Option Value → am_H → Prop} {a : Nat} {j : Int32} : ax k_L_law 1244 ls (.int j :: .ref a :: st) σ Q = ax_f (am_j σ a) (fun q => q.1 = 0 ∧ am_ix j q.2.1 ∧ ax k_L_law 1245 ls (.int (q.2.2 j.toNatClampNeg) :: st) σ Q) := rv_iald f_L_law_1244 rfl
set_option maxRecDepth 100000 in
theorem f_L_law_1245 : am_cd k_L_law 1245 = some ((some .boolean), .invokevirtual 123, (94, 2, 867, 0, 10, .null)) := rfl
theorem s_L_law_1245 {ls : am_L} {st : List Value} {σ : am_H} {Q : Option Value → am_H → Prop} {p0 : Int32} {p1 : Int32} {b : Nat} (hi : am_is σ b 10) (h8 : am_s8 st) : ax k_L_law 1245 ls (.int p1 :: .int p0 :: .ref b :: st) σ Q = ax k_A_saleOf 0 [some (.ref b), some (.int p0), some (.int p1), none] [] σ (ax_k k_L_law 1248 ls st Q) := ru_vir (M' := rk_A_saleOf) f_L_law_1245 rfl rfl rfl rfl hi h8 rfl rfl rfl rfl rfl
set_option maxRecDepth 100000 in
theorem f_L_law_1248 : am_cd k_L_law 1248 = some ((some .boolean), .aload_n 2, (0, 0, 0, 0, 0, .null)) := rfl
theorem s_L_law_1248 {a0 a1 a3 : Option Value} {st : List Value} {σ : am_H} {Q : Option Value → am_H → Prop} {x : Nat} : ax k_L_law 1248 [a0, a1, some (.ref x), a3] st σ Q = ax k_L_law 1249 [a0, a1, some (.ref x), a3] (.ref x :: st) σ Q := ru_loc (q := (_, _)) f_L_law_1248 rfl rfl rfl
theorem s_L_law_1248n {a0 a1 a3 : Option Value} {st : List Value} {σ : am_H} {Q : Option Value → am_H → Prop} : ax k_L_law 1248 [a0, a1, some .null, a3] st σ Q = ax k_L_law 1249 [a0, a1, some .null, a3] (.null :: st) σ Q := ru_loc (q := (_, _)) f_L_law_1248 rfl rfl rfl
set_option maxRecDepth 100000 in
theorem f_L_law_1249 : am_cd k_L_law 1249 = some ((some .boolean), .aload_n 0, (0, 0, 0, 0, 0, .null)) := rfl
theorem s_L_law_1249 {a1 a2 a3 : Option Value} {st : List Value} {σ : am_H} {Q : Option Value → am_H → Prop} {x : Nat} : ax k_L_law 1249 [some (.ref x), a1, a2, a3] st σ Q = ax k_L_law 1250 [some (.ref x), a1, a2, a3] (.ref x :: st) σ Q := ru_loc (q := (_, _)) f_L_law_1249 rfl rfl rfl
set_option maxRecDepth 100000 in
theorem f_L_law_1250 : am_cd k_L_law 1250 = some ((some .boolean), .iload_n 3, (0, 0, 0, 0, 0, .null)) := rfl
theorem s_L_law_1250 {a0 a1 a2 : Option Value} {st : List Value} {σ : am_H} {Q : Option Value → am_H → Prop} {x : Int32} : ax k_L_law 1250 [a0, a1, a2, some (.int x)] st σ Q = ax k_L_law 1251 [a0, a1, a2, some (.int x)] (.int x :: st) σ Q := ru_loc (q := (_, _)) f_L_law_1250 rfl rfl rfl
set_option maxRecDepth 100000 in
theorem f_L_law_1251 : am_cd k_L_law 1251 = some ((some .boolean), .iconst 1, (0, 0, 0, 0, 0, .null)) := rfl
theorem s_L_law_1251 {ls : am_L} {st : List Value} {σ : am_H} {Q : Option Value → am_H → Prop} : ax k_L_law 1251 ls st σ Q = ax k_L_law 1252 ls (.int 1 :: st) σ Q := ru_iconst f_L_law_1251 (by decide +kernel) rfl
set_option maxRecDepth 100000 in
theorem f_L_law_1252 : am_cd k_L_law 1252 = some ((some .boolean), .iadd, (0, 0, 0, 0, 0, .null)) := rfl
theorem s_L_law_1252 {ls : am_L} {st : List Value} {σ : am_H} {Q : Option Value → am_H → Prop} {x y : Int32} : ax k_L_law 1252 ls (.int y :: .int x :: st) σ Q = ax k_L_law 1253 ls (.int (x + y) :: st) σ Q := ru_pure f_L_law_1252 rfl rfl
set_option maxRecDepth 100000 in
theorem f_L_law_1253 : am_cd k_L_law 1253 = some ((some .boolean), .iaload, (0, 0, 0, 0, 0, .null)) := rfl
theorem s_L_law_1253 {ls : am_L} {st : List Value} {σ : am_H} {Q : Option Value → am_H → Prop} {a : Nat} {j : Int32} : ax k_L_law 1253 ls (.int j :: .ref a :: st) σ Q = ax_f (am_j σ a) (fun q => q.1 = 0 ∧ am_ix j q.2.1 ∧ ax k_L_law 1254 ls (.int (q.2.2 j.toNatClampNeg) :: st) σ Q) := rv_iald f_L_law_1253 rfl
set_option maxRecDepth 100000 in
theorem f_L_law_1254 : am_cd k_L_law 1254 = some ((some .boolean), .aload_n 0, (0, 0, 0, 0, 0, .null)) := rfl
theorem s_L_law_1254 {a1 a2 a3 : Option Value} {st : List Value} {σ : am_H} {Q : Option Value → am_H → Prop} {x : Nat} : ax k_L_law 1254 [some (.ref x), a1, a2, a3] st σ Q = ax k_L_law 1255 [some (.ref x), a1, a2, a3] (.ref x :: st) σ Q := ru_loc (q := (_, _)) f_L_law_1254 rfl rfl rfl
set_option maxRecDepth 100000 in
theorem f_L_law_1255 : am_cd k_L_law 1255 = some ((some .boolean), .iload_n 3, (0, 0, 0, 0, 0, .null)) := rfl
theorem s_L_law_1255 {a0 a1 a2 : Option Value} {st : List Value} {σ : am_H} {Q : Option Value → am_H → Prop} {x : Int32} : ax k_L_law 1255 [a0, a1, a2, some (.int x)] st σ Q = ax k_L_law 1256 [a0, a1, a2, some (.int x)] (.int x :: st) σ Q := ru_loc (q := (_, _)) f_L_law_1255 rfl rfl rfl
set_option maxRecDepth 100000 in
theorem f_L_law_1256 : am_cd k_L_law 1256 = some ((some .boolean), .iconst 2, (0, 0, 0, 0, 0, .null)) := rfl
theorem s_L_law_1256 {ls : am_L} {st : List Value} {σ : am_H} {Q : Option Value → am_H → Prop} : ax k_L_law 1256 ls st σ Q = ax k_L_law 1257 ls (.int 2 :: st) σ Q := ru_iconst f_L_law_1256 (by decide +kernel) rfl
set_option maxRecDepth 100000 in
theorem f_L_law_1257 : am_cd k_L_law 1257 = some ((some .boolean), .iadd, (0, 0, 0, 0, 0, .null)) := rfl
theorem s_L_law_1257 {ls : am_L} {st : List Value} {σ : am_H} {Q : Option Value → am_H → Prop} {x y : Int32} : ax k_L_law 1257 ls (.int y :: .int x :: st) σ Q = ax k_L_law 1258 ls (.int (x + y) :: st) σ Q := ru_pure f_L_law_1257 rfl rfl
set_option maxRecDepth 100000 in
theorem f_L_law_1258 : am_cd k_L_law 1258 = some ((some .boolean), .iaload, (0, 0, 0, 0, 0, .null)) := rfl
theorem s_L_law_1258 {ls : am_L} {st : List Value} {σ : am_H} {Q : Option Value → am_H → Prop} {a : Nat} {j : Int32} : ax k_L_law 1258 ls (.int j :: .ref a :: st) σ Q = ax_f (am_j σ a) (fun q => q.1 = 0 ∧ am_ix j q.2.1 ∧ ax k_L_law 1259 ls (.int (q.2.2 j.toNatClampNeg) :: st) σ Q) := rv_iald f_L_law_1258 rfl
set_option maxRecDepth 100000 in
theorem f_L_law_1259 : am_cd k_L_law 1259 = some ((some .boolean), .invokevirtual 126, (168, 2, 1325, 0, 11, .null)) := rfl
theorem s_L_law_1259 {ls : am_L} {st : List Value} {σ : am_H} {Q : Option Value → am_H → Prop} {p0 : Int32} {p1 : Int32} {b : Nat} (hi : am_is σ b 11) (h8 : am_s8 st) : ax k_L_law 1259 ls (.int p1 :: .int p0 :: .ref b :: st) σ Q = ax k_M_saleOf 0 [some (.ref b), some (.int p0), some (.int p1)] [] σ (ax_k k_L_law 1262 ls st Q) := ru_vir (M' := rk_M_saleOf) f_L_law_1259 rfl rfl rfl rfl hi h8 rfl rfl rfl rfl rfl
set_option maxRecDepth 100000 in
theorem f_L_law_1262 : am_cd k_L_law 1262 = some ((some .boolean), .if_icmp .eq 128, (1390, 0, 0, 0, 0, .null)) := rfl
theorem s_L_law_1262 {ls : am_L} {st : List Value} {σ : am_H} {Q : Option Value → am_H → Prop} {x y : Int32} : ax k_L_law 1262 ls (.int y :: .int x :: st) σ Q = (if x = y then ax k_L_law 1390 ls st σ Q else ax k_L_law 1265 ls st σ Q) := (ru_icmp f_L_law_1262 rfl).trans (ru_i_eq _ _ _ _)
set_option maxRecDepth 100000 in
theorem f_L_law_1265 : am_cd k_L_law 1265 = some ((some .boolean), .iconst 0, (0, 0, 0, 0, 0, .null)) := rfl
theorem s_L_law_1265 {ls : am_L} {st : List Value} {σ : am_H} {Q : Option Value → am_H → Prop} : ax k_L_law 1265 ls st σ Q = ax k_L_law 1266 ls (.int 0 :: st) σ Q := ru_iconst f_L_law_1265 (by decide +kernel) rfl
set_option maxRecDepth 100000 in
theorem f_L_law_1266 : am_cd k_L_law 1266 = some ((some .boolean), .ireturn, (0, 0, 0, 0, 0, .null)) := rfl
theorem s_L_law_1266 {ls : am_L} {σ : am_H} {Q : Option Value → am_H → Prop} {v : Int32} : ax k_L_law 1266 ls ([.int v]) σ Q = (am_nar .boolean v = true ∧ Q (some (.int v)) σ) := ru_iret f_L_law_1266
set_option maxRecDepth 100000 in
theorem f_L_law_1267 : am_cd k_L_law 1267 = some ((some .boolean), .aload_n 1, (0, 0, 0, 0, 0, .null)) := rfl
theorem s_L_law_1267 {a0 a2 a3 : Option Value} {st : List Value} {σ : am_H} {Q : Option Value → am_H → Prop} {x : Nat} : ax k_L_law 1267 [a0, some (.ref x), a2, a3] st σ Q = ax k_L_law 1268 [a0, some (.ref x), a2, a3] (.ref x :: st) σ Q := ru_loc (q := (_, _)) f_L_law_1267 rfl rfl rfl
theorem s_L_law_1267n {a0 a2 a3 : Option Value} {st : List Value} {σ : am_H} {Q : Option Value → am_H → Prop} : ax k_L_law 1267 [a0, some .null, a2, a3] st σ Q = ax k_L_law 1268 [a0, some .null, a2, a3] (.null :: st) σ Q := ru_loc (q := (_, _)) f_L_law_1267 rfl rfl rfl
set_option maxRecDepth 100000 in
theorem f_L_law_1268 : am_cd k_L_law 1268 = some ((some .boolean), .aload_n 0, (0, 0, 0, 0, 0, .null)) := rfl
theorem s_L_law_1268 {a1 a2 a3 : Option Value} {st : List Value} {σ : am_H} {Q : Option Value → am_H → Prop} {x : Nat} : ax k_L_law 1268 [some (.ref x), a1, a2, a3] st σ Q = ax k_L_law 1269 [some (.ref x), a1, a2, a3] (.ref x :: st) σ Q := ru_loc (q := (_, _)) f_L_law_1268 rfl rfl rfl
set_option maxRecDepth 100000 in
theorem f_L_law_1269 : am_cd k_L_law 1269 = some ((some .boolean), .iload_n 3, (0, 0, 0, 0, 0, .null)) := rfl
theorem s_L_law_1269 {a0 a1 a2 : Option Value} {st : List Value} {σ : am_H} {Q : Option Value → am_H → Prop} {x : Int32} : ax k_L_law 1269 [a0, a1, a2, some (.int x)] st σ Q = ax k_L_law 1270 [a0, a1, a2, some (.int x)] (.int x :: st) σ Q := ru_loc (q := (_, _)) f_L_law_1269 rfl rfl rfl
set_option maxRecDepth 100000 in
theorem f_L_law_1270 : am_cd k_L_law 1270 = some ((some .boolean), .iconst 1, (0, 0, 0, 0, 0, .null)) := rfl
theorem s_L_law_1270 {ls : am_L} {st : List Value} {σ : am_H} {Q : Option Value → am_H → Prop} : ax k_L_law 1270 ls st σ Q = ax k_L_law 1271 ls (.int 1 :: st) σ Q := ru_iconst f_L_law_1270 (by decide +kernel) rfl
set_option maxRecDepth 100000 in
theorem f_L_law_1271 : am_cd k_L_law 1271 = some ((some .boolean), .iadd, (0, 0, 0, 0, 0, .null)) := rfl
theorem s_L_law_1271 {ls : am_L} {st : List Value} {σ : am_H} {Q : Option Value → am_H → Prop} {x y : Int32} : ax k_L_law 1271 ls (.int y :: .int x :: st) σ Q = ax k_L_law 1272 ls (.int (x + y) :: st) σ Q := ru_pure f_L_law_1271 rfl rfl
set_option maxRecDepth 100000 in
theorem f_L_law_1272 : am_cd k_L_law 1272 = some ((some .boolean), .iaload, (0, 0, 0, 0, 0, .null)) := rfl
theorem s_L_law_1272 {ls : am_L} {st : List Value} {σ : am_H} {Q : Option Value → am_H → Prop} {a : Nat} {j : Int32} : ax k_L_law 1272 ls (.int j :: .ref a :: st) σ Q = ax_f (am_j σ a) (fun q => q.1 = 0 ∧ am_ix j q.2.1 ∧ ax k_L_law 1273 ls (.int (q.2.2 j.toNatClampNeg) :: st) σ Q) := rv_iald f_L_law_1272 rfl
set_option maxRecDepth 100000 in
theorem f_L_law_1273 : am_cd k_L_law 1273 = some ((some .boolean), .invokevirtual 127, (95, 1, 875, 0, 10, .null)) := rfl
theorem s_L_law_1273 {ls : am_L} {st : List Value} {σ : am_H} {Q : Option Value → am_H → Prop} {p0 : Int32} {b : Nat} (hi : am_is σ b 10) (h8 : am_s8 st) : ax k_L_law 1273 ls (.int p0 :: .ref b :: st) σ Q = ax k_A_got 0 [some (.ref b), some (.int p0)] [] σ (ax_k k_L_law 1276 ls st Q) := ru_vir (M' := rk_A_got) f_L_law_1273 rfl rfl rfl rfl hi h8 rfl rfl rfl rfl rfl
set_option maxRecDepth 100000 in
theorem f_L_law_1276 : am_cd k_L_law 1276 = some ((some .boolean), .aload_n 2, (0, 0, 0, 0, 0, .null)) := rfl
theorem s_L_law_1276 {a0 a1 a3 : Option Value} {st : List Value} {σ : am_H} {Q : Option Value → am_H → Prop} {x : Nat} : ax k_L_law 1276 [a0, a1, some (.ref x), a3] st σ Q = ax k_L_law 1277 [a0, a1, some (.ref x), a3] (.ref x :: st) σ Q := ru_loc (q := (_, _)) f_L_law_1276 rfl rfl rfl
theorem s_L_law_1276n {a0 a1 a3 : Option Value} {st : List Value} {σ : am_H} {Q : Option Value → am_H → Prop} : ax k_L_law 1276 [a0, a1, some .null, a3] st σ Q = ax k_L_law 1277 [a0, a1, some .null, a3] (.null :: st) σ Q := ru_loc (q := (_, _)) f_L_law_1276 rfl rfl rfl
set_option maxRecDepth 100000 in
theorem f_L_law_1277 : am_cd k_L_law 1277 = some ((some .boolean), .aload_n 0, (0, 0, 0, 0, 0, .null)) := rfl
theorem s_L_law_1277 {a1 a2 a3 : Option Value} {st : List Value} {σ : am_H} {Q : Option Value → am_H → Prop} {x : Nat} : ax k_L_law 1277 [some (.ref x), a1, a2, a3] st σ Q = ax k_L_law 1278 [some (.ref x), a1, a2, a3] (.ref x :: st) σ Q := ru_loc (q := (_, _)) f_L_law_1277 rfl rfl rfl
set_option maxRecDepth 100000 in
theorem f_L_law_1278 : am_cd k_L_law 1278 = some ((some .boolean), .iload_n 3, (0, 0, 0, 0, 0, .null)) := rfl
theorem s_L_law_1278 {a0 a1 a2 : Option Value} {st : List Value} {σ : am_H} {Q : Option Value → am_H → Prop} {x : Int32} : ax k_L_law 1278 [a0, a1, a2, some (.int x)] st σ Q = ax k_L_law 1279 [a0, a1, a2, some (.int x)] (.int x :: st) σ Q := ru_loc (q := (_, _)) f_L_law_1278 rfl rfl rfl
set_option maxRecDepth 100000 in
theorem f_L_law_1279 : am_cd k_L_law 1279 = some ((some .boolean), .iconst 1, (0, 0, 0, 0, 0, .null)) := rfl
theorem s_L_law_1279 {ls : am_L} {st : List Value} {σ : am_H} {Q : Option Value → am_H → Prop} : ax k_L_law 1279 ls st σ Q = ax k_L_law 1280 ls (.int 1 :: st) σ Q := ru_iconst f_L_law_1279 (by decide +kernel) rfl
set_option maxRecDepth 100000 in
theorem f_L_law_1280 : am_cd k_L_law 1280 = some ((some .boolean), .iadd, (0, 0, 0, 0, 0, .null)) := rfl
theorem s_L_law_1280 {ls : am_L} {st : List Value} {σ : am_H} {Q : Option Value → am_H → Prop} {x y : Int32} : ax k_L_law 1280 ls (.int y :: .int x :: st) σ Q = ax k_L_law 1281 ls (.int (x + y) :: st) σ Q := ru_pure f_L_law_1280 rfl rfl
set_option maxRecDepth 100000 in
theorem f_L_law_1281 : am_cd k_L_law 1281 = some ((some .boolean), .iaload, (0, 0, 0, 0, 0, .null)) := rfl
theorem s_L_law_1281 {ls : am_L} {st : List Value} {σ : am_H} {Q : Option Value → am_H → Prop} {a : Nat} {j : Int32} : ax k_L_law 1281 ls (.int j :: .ref a :: st) σ Q = ax_f (am_j σ a) (fun q => q.1 = 0 ∧ am_ix j q.2.1 ∧ ax k_L_law 1282 ls (.int (q.2.2 j.toNatClampNeg) :: st) σ Q) := rv_iald f_L_law_1281 rfl
set_option maxRecDepth 100000 in
theorem f_L_law_1282 : am_cd k_L_law 1282 = some ((some .boolean), .invokevirtual 131, (169, 1, 1329, 0, 11, .null)) := rfl
theorem s_L_law_1282 {ls : am_L} {st : List Value} {σ : am_H} {Q : Option Value → am_H → Prop} {p0 : Int32} {b : Nat} (hi : am_is σ b 11) (h8 : am_s8 st) : ax k_L_law 1282 ls (.int p0 :: .ref b :: st) σ Q = ax k_M_got 0 [some (.ref b), some (.int p0), none, none, none] [] σ (ax_k k_L_law 1285 ls st Q) := ru_vir (M' := rk_M_got) f_L_law_1282 rfl rfl rfl rfl hi h8 rfl rfl rfl rfl rfl
set_option maxRecDepth 100000 in
theorem f_L_law_1285 : am_cd k_L_law 1285 = some ((some .boolean), .lcmp, (0, 0, 0, 0, 0, .null)) := rfl
theorem s_L_law_1285 {ls : am_L} {st : List Value} {σ : am_H} {Q : Option Value → am_H → Prop} {x y : Int64} : ax k_L_law 1285 ls (.long y :: .long x :: st) σ Q = ax k_L_law 1286 ls (.int (lg_cmp x y) :: st) σ Q := ru_pure f_L_law_1285 rfl rfl
set_option maxRecDepth 100000 in
theorem f_L_law_1286 : am_cd k_L_law 1286 = some ((some .boolean), .ifCond .eq 104, (1390, 0, 0, 0, 0, .null)) := rfl
theorem s_L_law_1286 {ls : am_L} {st : List Value} {σ : am_H} {Q : Option Value → am_H → Prop} {x : Int32} : ax k_L_law 1286 ls (.int x :: st) σ Q = (if x = 0 then ax k_L_law 1390 ls st σ Q else ax k_L_law 1289 ls st σ Q) := (ru_if f_L_law_1286 rfl).trans (ru_i_eq _ _ _ _)
set_option maxRecDepth 100000 in
theorem f_L_law_1289 : am_cd k_L_law 1289 = some ((some .boolean), .iconst 0, (0, 0, 0, 0, 0, .null)) := rfl
theorem s_L_law_1289 {ls : am_L} {st : List Value} {σ : am_H} {Q : Option Value → am_H → Prop} : ax k_L_law 1289 ls st σ Q = ax k_L_law 1290 ls (.int 0 :: st) σ Q := ru_iconst f_L_law_1289 (by decide +kernel) rfl
set_option maxRecDepth 100000 in
theorem f_L_law_1290 : am_cd k_L_law 1290 = some ((some .boolean), .ireturn, (0, 0, 0, 0, 0, .null)) := rfl
theorem s_L_law_1290 {ls : am_L} {σ : am_H} {Q : Option Value → am_H → Prop} {v : Int32} : ax k_L_law 1290 ls ([.int v]) σ Q = (am_nar .boolean v = true ∧ Q (some (.int v)) σ) := ru_iret f_L_law_1290
set_option maxRecDepth 100000 in
theorem f_L_law_1291 : am_cd k_L_law 1291 = some ((some .boolean), .aload_n 1, (0, 0, 0, 0, 0, .null)) := rfl
theorem s_L_law_1291 {a0 a2 a3 : Option Value} {st : List Value} {σ : am_H} {Q : Option Value → am_H → Prop} {x : Nat} : ax k_L_law 1291 [a0, some (.ref x), a2, a3] st σ Q = ax k_L_law 1292 [a0, some (.ref x), a2, a3] (.ref x :: st) σ Q := ru_loc (q := (_, _)) f_L_law_1291 rfl rfl rfl
theorem s_L_law_1291n {a0 a2 a3 : Option Value} {st : List Value} {σ : am_H} {Q : Option Value → am_H → Prop} : ax k_L_law 1291 [a0, some .null, a2, a3] st σ Q = ax k_L_law 1292 [a0, some .null, a2, a3] (.null :: st) σ Q := ru_loc (q := (_, _)) f_L_law_1291 rfl rfl rfl
set_option maxRecDepth 100000 in
theorem f_L_law_1292 : am_cd k_L_law 1292 = some ((some .boolean), .aload_n 0, (0, 0, 0, 0, 0, .null)) := rfl
theorem s_L_law_1292 {a1 a2 a3 : Option Value} {st : List Value} {σ : am_H} {Q : Option Value → am_H → Prop} {x : Nat} : ax k_L_law 1292 [some (.ref x), a1, a2, a3] st σ Q = ax k_L_law 1293 [some (.ref x), a1, a2, a3] (.ref x :: st) σ Q := ru_loc (q := (_, _)) f_L_law_1292 rfl rfl rfl
set_option maxRecDepth 100000 in
theorem f_L_law_1293 : am_cd k_L_law 1293 = some ((some .boolean), .iload_n 3, (0, 0, 0, 0, 0, .null)) := rfl
theorem s_L_law_1293 {a0 a1 a2 : Option Value} {st : List Value} {σ : am_H} {Q : Option Value → am_H → Prop} {x : Int32} : ax k_L_law 1293 [a0, a1, a2, some (.int x)] st σ Q = ax k_L_law 1294 [a0, a1, a2, some (.int x)] (.int x :: st) σ Q := ru_loc (q := (_, _)) f_L_law_1293 rfl rfl rfl
set_option maxRecDepth 100000 in
theorem f_L_law_1294 : am_cd k_L_law 1294 = some ((some .boolean), .iconst 1, (0, 0, 0, 0, 0, .null)) := rfl
theorem s_L_law_1294 {ls : am_L} {st : List Value} {σ : am_H} {Q : Option Value → am_H → Prop} : ax k_L_law 1294 ls st σ Q = ax k_L_law 1295 ls (.int 1 :: st) σ Q := ru_iconst f_L_law_1294 (by decide +kernel) rfl
set_option maxRecDepth 100000 in
theorem f_L_law_1295 : am_cd k_L_law 1295 = some ((some .boolean), .iadd, (0, 0, 0, 0, 0, .null)) := rfl
theorem s_L_law_1295 {ls : am_L} {st : List Value} {σ : am_H} {Q : Option Value → am_H → Prop} {x y : Int32} : ax k_L_law 1295 ls (.int y :: .int x :: st) σ Q = ax k_L_law 1296 ls (.int (x + y) :: st) σ Q := ru_pure f_L_law_1295 rfl rfl
set_option maxRecDepth 100000 in
theorem f_L_law_1296 : am_cd k_L_law 1296 = some ((some .boolean), .iaload, (0, 0, 0, 0, 0, .null)) := rfl
theorem s_L_law_1296 {ls : am_L} {st : List Value} {σ : am_H} {Q : Option Value → am_H → Prop} {a : Nat} {j : Int32} : ax k_L_law 1296 ls (.int j :: .ref a :: st) σ Q = ax_f (am_j σ a) (fun q => q.1 = 0 ∧ am_ix j q.2.1 ∧ ax k_L_law 1297 ls (.int (q.2.2 j.toNatClampNeg) :: st) σ Q) := rv_iald f_L_law_1296 rfl
set_option maxRecDepth 100000 in
theorem f_L_law_1297 : am_cd k_L_law 1297 = some ((some .boolean), .aload_n 0, (0, 0, 0, 0, 0, .null)) := rfl
theorem s_L_law_1297 {a1 a2 a3 : Option Value} {st : List Value} {σ : am_H} {Q : Option Value → am_H → Prop} {x : Nat} : ax k_L_law 1297 [some (.ref x), a1, a2, a3] st σ Q = ax k_L_law 1298 [some (.ref x), a1, a2, a3] (.ref x :: st) σ Q := ru_loc (q := (_, _)) f_L_law_1297 rfl rfl rfl
set_option maxRecDepth 100000 in
theorem f_L_law_1298 : am_cd k_L_law 1298 = some ((some .boolean), .iload_n 3, (0, 0, 0, 0, 0, .null)) := rfl
theorem s_L_law_1298 {a0 a1 a2 : Option Value} {st : List Value} {σ : am_H} {Q : Option Value → am_H → Prop} {x : Int32} : ax k_L_law 1298 [a0, a1, a2, some (.int x)] st σ Q = ax k_L_law 1299 [a0, a1, a2, some (.int x)] (.int x :: st) σ Q := ru_loc (q := (_, _)) f_L_law_1298 rfl rfl rfl
set_option maxRecDepth 100000 in
theorem f_L_law_1299 : am_cd k_L_law 1299 = some ((some .boolean), .iconst 2, (0, 0, 0, 0, 0, .null)) := rfl
theorem s_L_law_1299 {ls : am_L} {st : List Value} {σ : am_H} {Q : Option Value → am_H → Prop} : ax k_L_law 1299 ls st σ Q = ax k_L_law 1300 ls (.int 2 :: st) σ Q := ru_iconst f_L_law_1299 (by decide +kernel) rfl
set_option maxRecDepth 100000 in
theorem f_L_law_1300 : am_cd k_L_law 1300 = some ((some .boolean), .iadd, (0, 0, 0, 0, 0, .null)) := rfl
theorem s_L_law_1300 {ls : am_L} {st : List Value} {σ : am_H} {Q : Option Value → am_H → Prop} {x y : Int32} : ax k_L_law 1300 ls (.int y :: .int x :: st) σ Q = ax k_L_law 1301 ls (.int (x + y) :: st) σ Q := ru_pure f_L_law_1300 rfl rfl
set_option maxRecDepth 100000 in
theorem f_L_law_1301 : am_cd k_L_law 1301 = some ((some .boolean), .iaload, (0, 0, 0, 0, 0, .null)) := rfl
theorem s_L_law_1301 {ls : am_L} {st : List Value} {σ : am_H} {Q : Option Value → am_H → Prop} {a : Nat} {j : Int32} : ax k_L_law 1301 ls (.int j :: .ref a :: st) σ Q = ax_f (am_j σ a) (fun q => q.1 = 0 ∧ am_ix j q.2.1 ∧ ax k_L_law 1302 ls (.int (q.2.2 j.toNatClampNeg) :: st) σ Q) := rv_iald f_L_law_1301 rfl
set_option maxRecDepth 100000 in
theorem f_L_law_1302 : am_cd k_L_law 1302 = some ((some .boolean), .aload_n 0, (0, 0, 0, 0, 0, .null)) := rfl
theorem s_L_law_1302 {a1 a2 a3 : Option Value} {st : List Value} {σ : am_H} {Q : Option Value → am_H → Prop} {x : Nat} : ax k_L_law 1302 [some (.ref x), a1, a2, a3] st σ Q = ax k_L_law 1303 [some (.ref x), a1, a2, a3] (.ref x :: st) σ Q := ru_loc (q := (_, _)) f_L_law_1302 rfl rfl rfl
set_option maxRecDepth 100000 in
theorem f_L_law_1303 : am_cd k_L_law 1303 = some ((some .boolean), .iload_n 3, (0, 0, 0, 0, 0, .null)) := rfl
theorem s_L_law_1303 {a0 a1 a2 : Option Value} {st : List Value} {σ : am_H} {Q : Option Value → am_H → Prop} {x : Int32} : ax k_L_law 1303 [a0, a1, a2, some (.int x)] st σ Q = ax k_L_law 1304 [a0, a1, a2, some (.int x)] (.int x :: st) σ Q := ru_loc (q := (_, _)) f_L_law_1303 rfl rfl rfl
set_option maxRecDepth 100000 in
theorem f_L_law_1304 : am_cd k_L_law 1304 = some ((some .boolean), .iconst 3, (0, 0, 0, 0, 0, .null)) := rfl
theorem s_L_law_1304 {ls : am_L} {st : List Value} {σ : am_H} {Q : Option Value → am_H → Prop} : ax k_L_law 1304 ls st σ Q = ax k_L_law 1305 ls (.int 3 :: st) σ Q := ru_iconst f_L_law_1304 (by decide +kernel) rfl
set_option maxRecDepth 100000 in
theorem f_L_law_1305 : am_cd k_L_law 1305 = some ((some .boolean), .iadd, (0, 0, 0, 0, 0, .null)) := rfl
theorem s_L_law_1305 {ls : am_L} {st : List Value} {σ : am_H} {Q : Option Value → am_H → Prop} {x y : Int32} : ax k_L_law 1305 ls (.int y :: .int x :: st) σ Q = ax k_L_law 1306 ls (.int (x + y) :: st) σ Q := ru_pure f_L_law_1305 rfl rfl
set_option maxRecDepth 100000 in
theorem f_L_law_1306 : am_cd k_L_law 1306 = some ((some .boolean), .iaload, (0, 0, 0, 0, 0, .null)) := rfl
theorem s_L_law_1306 {ls : am_L} {st : List Value} {σ : am_H} {Q : Option Value → am_H → Prop} {a : Nat} {j : Int32} : ax k_L_law 1306 ls (.int j :: .ref a :: st) σ Q = ax_f (am_j σ a) (fun q => q.1 = 0 ∧ am_ix j q.2.1 ∧ ax k_L_law 1307 ls (.int (q.2.2 j.toNatClampNeg) :: st) σ Q) := rv_iald f_L_law_1306 rfl
set_option maxRecDepth 100000 in
theorem f_L_law_1307 : am_cd k_L_law 1307 = some ((some .boolean), .aload_n 0, (0, 0, 0, 0, 0, .null)) := rfl
theorem s_L_law_1307 {a1 a2 a3 : Option Value} {st : List Value} {σ : am_H} {Q : Option Value → am_H → Prop} {x : Nat} : ax k_L_law 1307 [some (.ref x), a1, a2, a3] st σ Q = ax k_L_law 1308 [some (.ref x), a1, a2, a3] (.ref x :: st) σ Q := ru_loc (q := (_, _)) f_L_law_1307 rfl rfl rfl
set_option maxRecDepth 100000 in
theorem f_L_law_1308 : am_cd k_L_law 1308 = some ((some .boolean), .iload_n 3, (0, 0, 0, 0, 0, .null)) := rfl
theorem s_L_law_1308 {a0 a1 a2 : Option Value} {st : List Value} {σ : am_H} {Q : Option Value → am_H → Prop} {x : Int32} : ax k_L_law 1308 [a0, a1, a2, some (.int x)] st σ Q = ax k_L_law 1309 [a0, a1, a2, some (.int x)] (.int x :: st) σ Q := ru_loc (q := (_, _)) f_L_law_1308 rfl rfl rfl
set_option maxRecDepth 100000 in
theorem f_L_law_1309 : am_cd k_L_law 1309 = some ((some .boolean), .iconst 4, (0, 0, 0, 0, 0, .null)) := rfl
theorem s_L_law_1309 {ls : am_L} {st : List Value} {σ : am_H} {Q : Option Value → am_H → Prop} : ax k_L_law 1309 ls st σ Q = ax k_L_law 1310 ls (.int 4 :: st) σ Q := ru_iconst f_L_law_1309 (by decide +kernel) rfl
set_option maxRecDepth 100000 in
theorem f_L_law_1310 : am_cd k_L_law 1310 = some ((some .boolean), .iadd, (0, 0, 0, 0, 0, .null)) := rfl
theorem s_L_law_1310 {ls : am_L} {st : List Value} {σ : am_H} {Q : Option Value → am_H → Prop} {x y : Int32} : ax k_L_law 1310 ls (.int y :: .int x :: st) σ Q = ax k_L_law 1311 ls (.int (x + y) :: st) σ Q := ru_pure f_L_law_1310 rfl rfl
set_option maxRecDepth 100000 in
theorem f_L_law_1311 : am_cd k_L_law 1311 = some ((some .boolean), .iaload, (0, 0, 0, 0, 0, .null)) := rfl
theorem s_L_law_1311 {ls : am_L} {st : List Value} {σ : am_H} {Q : Option Value → am_H → Prop} {a : Nat} {j : Int32} : ax k_L_law 1311 ls (.int j :: .ref a :: st) σ Q = ax_f (am_j σ a) (fun q => q.1 = 0 ∧ am_ix j q.2.1 ∧ ax k_L_law 1312 ls (.int (q.2.2 j.toNatClampNeg) :: st) σ Q) := rv_iald f_L_law_1311 rfl
set_option maxRecDepth 100000 in
theorem f_L_law_1312 : am_cd k_L_law 1312 = some ((some .boolean), .invokevirtual 132, (96, 4, 887, 0, 10, .null)) := rfl
theorem s_L_law_1312 {ls : am_L} {st : List Value} {σ : am_H} {Q : Option Value → am_H → Prop} {p0 : Int32} {p1 : Int32} {p2 : Int32} {p3 : Int32} {b : Nat} (hi : am_is σ b 10) (h8 : am_s8 st) : ax k_L_law 1312 ls (.int p3 :: .int p2 :: .int p1 :: .int p0 :: .ref b :: st) σ Q = ax k_A_print 0 [some (.ref b), some (.int p0), some (.int p1), some (.int p2), some (.int p3)] [] σ (ax_k k_L_law 1315 ls st Q) := ru_vir (M' := rk_A_print) f_L_law_1312 rfl rfl rfl rfl hi h8 rfl rfl rfl rfl rfl
set_option maxRecDepth 100000 in
theorem f_L_law_1315 : am_cd k_L_law 1315 = some ((some .boolean), .aload_n 2, (0, 0, 0, 0, 0, .null)) := rfl
theorem s_L_law_1315 {a0 a1 a3 : Option Value} {st : List Value} {σ : am_H} {Q : Option Value → am_H → Prop} {x : Nat} : ax k_L_law 1315 [a0, a1, some (.ref x), a3] st σ Q = ax k_L_law 1316 [a0, a1, some (.ref x), a3] (.ref x :: st) σ Q := ru_loc (q := (_, _)) f_L_law_1315 rfl rfl rfl
theorem s_L_law_1315n {a0 a1 a3 : Option Value} {st : List Value} {σ : am_H} {Q : Option Value → am_H → Prop} : ax k_L_law 1315 [a0, a1, some .null, a3] st σ Q = ax k_L_law 1316 [a0, a1, some .null, a3] (.null :: st) σ Q := ru_loc (q := (_, _)) f_L_law_1315 rfl rfl rfl
set_option maxRecDepth 100000 in
theorem f_L_law_1316 : am_cd k_L_law 1316 = some ((some .boolean), .aload_n 0, (0, 0, 0, 0, 0, .null)) := rfl
theorem s_L_law_1316 {a1 a2 a3 : Option Value} {st : List Value} {σ : am_H} {Q : Option Value → am_H → Prop} {x : Nat} : ax k_L_law 1316 [some (.ref x), a1, a2, a3] st σ Q = ax k_L_law 1317 [some (.ref x), a1, a2, a3] (.ref x :: st) σ Q := ru_loc (q := (_, _)) f_L_law_1316 rfl rfl rfl
set_option maxRecDepth 100000 in
theorem f_L_law_1317 : am_cd k_L_law 1317 = some ((some .boolean), .iload_n 3, (0, 0, 0, 0, 0, .null)) := rfl
theorem s_L_law_1317 {a0 a1 a2 : Option Value} {st : List Value} {σ : am_H} {Q : Option Value → am_H → Prop} {x : Int32} : ax k_L_law 1317 [a0, a1, a2, some (.int x)] st σ Q = ax k_L_law 1318 [a0, a1, a2, some (.int x)] (.int x :: st) σ Q := ru_loc (q := (_, _)) f_L_law_1317 rfl rfl rfl
set_option maxRecDepth 100000 in
theorem f_L_law_1318 : am_cd k_L_law 1318 = some ((some .boolean), .iconst 1, (0, 0, 0, 0, 0, .null)) := rfl
theorem s_L_law_1318 {ls : am_L} {st : List Value} {σ : am_H} {Q : Option Value → am_H → Prop} : ax k_L_law 1318 ls st σ Q = ax k_L_law 1319 ls (.int 1 :: st) σ Q := ru_iconst f_L_law_1318 (by decide +kernel) rfl
set_option maxRecDepth 100000 in
theorem f_L_law_1319 : am_cd k_L_law 1319 = some ((some .boolean), .iadd, (0, 0, 0, 0, 0, .null)) := rfl
theorem s_L_law_1319 {ls : am_L} {st : List Value} {σ : am_H} {Q : Option Value → am_H → Prop} {x y : Int32} : ax k_L_law 1319 ls (.int y :: .int x :: st) σ Q = ax k_L_law 1320 ls (.int (x + y) :: st) σ Q := ru_pure f_L_law_1319 rfl rfl
set_option maxRecDepth 100000 in
theorem f_L_law_1320 : am_cd k_L_law 1320 = some ((some .boolean), .iaload, (0, 0, 0, 0, 0, .null)) := rfl
theorem s_L_law_1320 {ls : am_L} {st : List Value} {σ : am_H} {Q : Option Value → am_H → Prop} {a : Nat} {j : Int32} : ax k_L_law 1320 ls (.int j :: .ref a :: st) σ Q = ax_f (am_j σ a) (fun q => q.1 = 0 ∧ am_ix j q.2.1 ∧ ax k_L_law 1321 ls (.int (q.2.2 j.toNatClampNeg) :: st) σ Q) := rv_iald f_L_law_1320 rfl
set_option maxRecDepth 100000 in
theorem f_L_law_1321 : am_cd k_L_law 1321 = some ((some .boolean), .aload_n 0, (0, 0, 0, 0, 0, .null)) := rfl
theorem s_L_law_1321 {a1 a2 a3 : Option Value} {st : List Value} {σ : am_H} {Q : Option Value → am_H → Prop} {x : Nat} : ax k_L_law 1321 [some (.ref x), a1, a2, a3] st σ Q = ax k_L_law 1322 [some (.ref x), a1, a2, a3] (.ref x :: st) σ Q := ru_loc (q := (_, _)) f_L_law_1321 rfl rfl rfl
set_option maxRecDepth 100000 in
theorem f_L_law_1322 : am_cd k_L_law 1322 = some ((some .boolean), .iload_n 3, (0, 0, 0, 0, 0, .null)) := rfl
theorem s_L_law_1322 {a0 a1 a2 : Option Value} {st : List Value} {σ : am_H} {Q : Option Value → am_H → Prop} {x : Int32} : ax k_L_law 1322 [a0, a1, a2, some (.int x)] st σ Q = ax k_L_law 1323 [a0, a1, a2, some (.int x)] (.int x :: st) σ Q := ru_loc (q := (_, _)) f_L_law_1322 rfl rfl rfl
set_option maxRecDepth 100000 in
theorem f_L_law_1323 : am_cd k_L_law 1323 = some ((some .boolean), .iconst 2, (0, 0, 0, 0, 0, .null)) := rfl
theorem s_L_law_1323 {ls : am_L} {st : List Value} {σ : am_H} {Q : Option Value → am_H → Prop} : ax k_L_law 1323 ls st σ Q = ax k_L_law 1324 ls (.int 2 :: st) σ Q := ru_iconst f_L_law_1323 (by decide +kernel) rfl
set_option maxRecDepth 100000 in
theorem f_L_law_1324 : am_cd k_L_law 1324 = some ((some .boolean), .iadd, (0, 0, 0, 0, 0, .null)) := rfl
theorem s_L_law_1324 {ls : am_L} {st : List Value} {σ : am_H} {Q : Option Value → am_H → Prop} {x y : Int32} : ax k_L_law 1324 ls (.int y :: .int x :: st) σ Q = ax k_L_law 1325 ls (.int (x + y) :: st) σ Q := ru_pure f_L_law_1324 rfl rfl
set_option maxRecDepth 100000 in
theorem f_L_law_1325 : am_cd k_L_law 1325 = some ((some .boolean), .iaload, (0, 0, 0, 0, 0, .null)) := rfl
theorem s_L_law_1325 {ls : am_L} {st : List Value} {σ : am_H} {Q : Option Value → am_H → Prop} {a : Nat} {j : Int32} : ax k_L_law 1325 ls (.int j :: .ref a :: st) σ Q = ax_f (am_j σ a) (fun q => q.1 = 0 ∧ am_ix j q.2.1 ∧ ax k_L_law 1326 ls (.int (q.2.2 j.toNatClampNeg) :: st) σ Q) := rv_iald f_L_law_1325 rfl
set_option maxRecDepth 100000 in
theorem f_L_law_1326 : am_cd k_L_law 1326 = some ((some .boolean), .aload_n 0, (0, 0, 0, 0, 0, .null)) := rfl
theorem s_L_law_1326 {a1 a2 a3 : Option Value} {st : List Value} {σ : am_H} {Q : Option Value → am_H → Prop} {x : Nat} : ax k_L_law 1326 [some (.ref x), a1, a2, a3] st σ Q = ax k_L_law 1327 [some (.ref x), a1, a2, a3] (.ref x :: st) σ Q := ru_loc (q := (_, _)) f_L_law_1326 rfl rfl rfl
set_option maxRecDepth 100000 in
theorem f_L_law_1327 : am_cd k_L_law 1327 = some ((some .boolean), .iload_n 3, (0, 0, 0, 0, 0, .null)) := rfl
theorem s_L_law_1327 {a0 a1 a2 : Option Value} {st : List Value} {σ : am_H} {Q : Option Value → am_H → Prop} {x : Int32} : ax k_L_law 1327 [a0, a1, a2, some (.int x)] st σ Q = ax k_L_law 1328 [a0, a1, a2, some (.int x)] (.int x :: st) σ Q := ru_loc (q := (_, _)) f_L_law_1327 rfl rfl rfl
set_option maxRecDepth 100000 in
theorem f_L_law_1328 : am_cd k_L_law 1328 = some ((some .boolean), .iconst 3, (0, 0, 0, 0, 0, .null)) := rfl
theorem s_L_law_1328 {ls : am_L} {st : List Value} {σ : am_H} {Q : Option Value → am_H → Prop} : ax k_L_law 1328 ls st σ Q = ax k_L_law 1329 ls (.int 3 :: st) σ Q := ru_iconst f_L_law_1328 (by decide +kernel) rfl
set_option maxRecDepth 100000 in
theorem f_L_law_1329 : am_cd k_L_law 1329 = some ((some .boolean), .iadd, (0, 0, 0, 0, 0, .null)) := rfl
theorem s_L_law_1329 {ls : am_L} {st : List Value} {σ : am_H} {Q : Option Value → am_H → Prop} {x y : Int32} : ax k_L_law 1329 ls (.int y :: .int x :: st) σ Q = ax k_L_law 1330 ls (.int (x + y) :: st) σ Q := ru_pure f_L_law_1329 rfl rfl
set_option maxRecDepth 100000 in
theorem f_L_law_1330 : am_cd k_L_law 1330 = some ((some .boolean), .iaload, (0, 0, 0, 0, 0, .null)) := rfl
theorem s_L_law_1330 {ls : am_L} {st : List Value} {σ : am_H} {Q : Option Value → am_H → Prop} {a : Nat} {j : Int32} : ax k_L_law 1330 ls (.int j :: .ref a :: st) σ Q = ax_f (am_j σ a) (fun q => q.1 = 0 ∧ am_ix j q.2.1 ∧ ax k_L_law 1331 ls (.int (q.2.2 j.toNatClampNeg) :: st) σ Q) := rv_iald f_L_law_1330 rfl
set_option maxRecDepth 100000 in
theorem f_L_law_1331 : am_cd k_L_law 1331 = some ((some .boolean), .aload_n 0, (0, 0, 0, 0, 0, .null)) := rfl
theorem s_L_law_1331 {a1 a2 a3 : Option Value} {st : List Value} {σ : am_H} {Q : Option Value → am_H → Prop} {x : Nat} : ax k_L_law 1331 [some (.ref x), a1, a2, a3] st σ Q = ax k_L_law 1332 [some (.ref x), a1, a2, a3] (.ref x :: st) σ Q := ru_loc (q := (_, _)) f_L_law_1331 rfl rfl rfl
set_option maxRecDepth 100000 in
theorem f_L_law_1332 : am_cd k_L_law 1332 = some ((some .boolean), .iload_n 3, (0, 0, 0, 0, 0, .null)) := rfl
theorem s_L_law_1332 {a0 a1 a2 : Option Value} {st : List Value} {σ : am_H} {Q : Option Value → am_H → Prop} {x : Int32} : ax k_L_law 1332 [a0, a1, a2, some (.int x)] st σ Q = ax k_L_law 1333 [a0, a1, a2, some (.int x)] (.int x :: st) σ Q := ru_loc (q := (_, _)) f_L_law_1332 rfl rfl rfl
set_option maxRecDepth 100000 in
theorem f_L_law_1333 : am_cd k_L_law 1333 = some ((some .boolean), .iconst 4, (0, 0, 0, 0, 0, .null)) := rfl
theorem s_L_law_1333 {ls : am_L} {st : List Value} {σ : am_H} {Q : Option Value → am_H → Prop} : ax k_L_law 1333 ls st σ Q = ax k_L_law 1334 ls (.int 4 :: st) σ Q := ru_iconst f_L_law_1333 (by decide +kernel) rfl
set_option maxRecDepth 100000 in
theorem f_L_law_1334 : am_cd k_L_law 1334 = some ((some .boolean), .iadd, (0, 0, 0, 0, 0, .null)) := rfl
theorem s_L_law_1334 {ls : am_L} {st : List Value} {σ : am_H} {Q : Option Value → am_H → Prop} {x y : Int32} : ax k_L_law 1334 ls (.int y :: .int x :: st) σ Q = ax k_L_law 1335 ls (.int (x + y) :: st) σ Q := ru_pure f_L_law_1334 rfl rfl
set_option maxRecDepth 100000 in
theorem f_L_law_1335 : am_cd k_L_law 1335 = some ((some .boolean), .iaload, (0, 0, 0, 0, 0, .null)) := rfl
theorem s_L_law_1335 {ls : am_L} {st : List Value} {σ : am_H} {Q : Option Value → am_H → Prop} {a : Nat} {j : Int32} : ax k_L_law 1335 ls (.int j :: .ref a :: st) σ Q = ax_f (am_j σ a) (fun q => q.1 = 0 ∧ am_ix j q.2.1 ∧ ax k_L_law 1336 ls (.int (q.2.2 j.toNatClampNeg) :: st) σ Q) := rv_iald f_L_law_1335 rfl
set_option maxRecDepth 100000 in
theorem f_L_law_1336 : am_cd k_L_law 1336 = some ((some .boolean), .invokevirtual 136, (170, 4, 1333, 0, 11, .null)) := rfl
theorem s_L_law_1336 {ls : am_L} {st : List Value} {σ : am_H} {Q : Option Value → am_H → Prop} {p0 : Int32} {p1 : Int32} {p2 : Int32} {p3 : Int32} {b : Nat} (hi : am_is σ b 11) (h8 : am_s8 st) : ax k_L_law 1336 ls (.int p3 :: .int p2 :: .int p1 :: .int p0 :: .ref b :: st) σ Q = ax k_M_print 0 [some (.ref b), some (.int p0), some (.int p1), some (.int p2), some (.int p3), none, none] [] σ (ax_k k_L_law 1339 ls st Q) := ru_vir (M' := rk_M_print) f_L_law_1336 rfl rfl rfl rfl hi h8 rfl rfl rfl rfl rfl
set_option maxRecDepth 100000 in
theorem f_L_law_1339 : am_cd k_L_law 1339 = some ((some .boolean), .if_icmp .eq 51, (1390, 0, 0, 0, 0, .null)) := rfl
theorem s_L_law_1339 {ls : am_L} {st : List Value} {σ : am_H} {Q : Option Value → am_H → Prop} {x y : Int32} : ax k_L_law 1339 ls (.int y :: .int x :: st) σ Q = (if x = y then ax k_L_law 1390 ls st σ Q else ax k_L_law 1342 ls st σ Q) := (ru_icmp f_L_law_1339 rfl).trans (ru_i_eq _ _ _ _)
set_option maxRecDepth 100000 in
theorem f_L_law_1342 : am_cd k_L_law 1342 = some ((some .boolean), .iconst 0, (0, 0, 0, 0, 0, .null)) := rfl
theorem s_L_law_1342 {ls : am_L} {st : List Value} {σ : am_H} {Q : Option Value → am_H → Prop} : ax k_L_law 1342 ls st σ Q = ax k_L_law 1343 ls (.int 0 :: st) σ Q := ru_iconst f_L_law_1342 (by decide +kernel) rfl
set_option maxRecDepth 100000 in
theorem f_L_law_1343 : am_cd k_L_law 1343 = some ((some .boolean), .ireturn, (0, 0, 0, 0, 0, .null)) := rfl
theorem s_L_law_1343 {ls : am_L} {σ : am_H} {Q : Option Value → am_H → Prop} {v : Int32} : ax k_L_law 1343 ls ([.int v]) σ Q = (am_nar .boolean v = true ∧ Q (some (.int v)) σ) := ru_iret f_L_law_1343
set_option maxRecDepth 100000 in
theorem f_L_law_1344 : am_cd k_L_law 1344 = some ((some .boolean), .aload_n 1, (0, 0, 0, 0, 0, .null)) := rfl
theorem s_L_law_1344 {a0 a2 a3 : Option Value} {st : List Value} {σ : am_H} {Q : Option Value → am_H → Prop} {x : Nat} : ax k_L_law 1344 [a0, some (.ref x), a2, a3] st σ Q = ax k_L_law 1345 [a0, some (.ref x), a2, a3] (.ref x :: st) σ Q := ru_loc (q := (_, _)) f_L_law_1344 rfl rfl rfl
theorem s_L_law_1344n {a0 a2 a3 : Option Value} {st : List Value} {σ : am_H} {Q : Option Value → am_H → Prop} : ax k_L_law 1344 [a0, some .null, a2, a3] st σ Q = ax k_L_law 1345 [a0, some .null, a2, a3] (.null :: st) σ Q := ru_loc (q := (_, _)) f_L_law_1344 rfl rfl rfl
set_option maxRecDepth 100000 in
theorem f_L_law_1345 : am_cd k_L_law 1345 = some ((some .boolean), .aload_n 0, (0, 0, 0, 0, 0, .null)) := rfl
theorem s_L_law_1345 {a1 a2 a3 : Option Value} {st : List Value} {σ : am_H} {Q : Option Value → am_H → Prop} {x : Nat} : ax k_L_law 1345 [some (.ref x), a1, a2, a3] st σ Q = ax k_L_law 1346 [some (.ref x), a1, a2, a3] (.ref x :: st) σ Q := ru_loc (q := (_, _)) f_L_law_1345 rfl rfl rfl
set_option maxRecDepth 100000 in
theorem f_L_law_1346 : am_cd k_L_law 1346 = some ((some .boolean), .iload_n 3, (0, 0, 0, 0, 0, .null)) := rfl
theorem s_L_law_1346 {a0 a1 a2 : Option Value} {st : List Value} {σ : am_H} {Q : Option Value → am_H → Prop} {x : Int32} : ax k_L_law 1346 [a0, a1, a2, some (.int x)] st σ Q = ax k_L_law 1347 [a0, a1, a2, some (.int x)] (.int x :: st) σ Q := ru_loc (q := (_, _)) f_L_law_1346 rfl rfl rfl
set_option maxRecDepth 100000 in
theorem f_L_law_1347 : am_cd k_L_law 1347 = some ((some .boolean), .iconst 1, (0, 0, 0, 0, 0, .null)) := rfl
theorem s_L_law_1347 {ls : am_L} {st : List Value} {σ : am_H} {Q : Option Value → am_H → Prop} : ax k_L_law 1347 ls st σ Q = ax k_L_law 1348 ls (.int 1 :: st) σ Q := ru_iconst f_L_law_1347 (by decide +kernel) rfl
set_option maxRecDepth 100000 in
theorem f_L_law_1348 : am_cd k_L_law 1348 = some ((some .boolean), .iadd, (0, 0, 0, 0, 0, .null)) := rfl
theorem s_L_law_1348 {ls : am_L} {st : List Value} {σ : am_H} {Q : Option Value → am_H → Prop} {x y : Int32} : ax k_L_law 1348 ls (.int y :: .int x :: st) σ Q = ax k_L_law 1349 ls (.int (x + y) :: st) σ Q := ru_pure f_L_law_1348 rfl rfl
set_option maxRecDepth 100000 in
theorem f_L_law_1349 : am_cd k_L_law 1349 = some ((some .boolean), .iaload, (0, 0, 0, 0, 0, .null)) := rfl
theorem s_L_law_1349 {ls : am_L} {st : List Value} {σ : am_H} {Q : Option Value → am_H → Prop} {a : Nat} {j : Int32} : ax k_L_law 1349 ls (.int j :: .ref a :: st) σ Q = ax_f (am_j σ a) (fun q => q.1 = 0 ∧ am_ix j q.2.1 ∧ ax k_L_law 1350 ls (.int (q.2.2 j.toNatClampNeg) :: st) σ Q) := rv_iald f_L_law_1349 rfl
set_option maxRecDepth 100000 in
theorem f_L_law_1350 : am_cd k_L_law 1350 = some ((some .boolean), .invokevirtual 137, (97, 1, 899, 0, 10, .null)) := rfl
theorem s_L_law_1350 {ls : am_L} {st : List Value} {σ : am_H} {Q : Option Value → am_H → Prop} {p0 : Int32} {b : Nat} (hi : am_is σ b 10) (h8 : am_s8 st) : ax k_L_law 1350 ls (.int p0 :: .ref b :: st) σ Q = ax k_A_printed 0 [some (.ref b), some (.int p0)] [] σ (ax_k k_L_law 1353 ls st Q) := ru_vir (M' := rk_A_printed) f_L_law_1350 rfl rfl rfl rfl hi h8 rfl rfl rfl rfl rfl
set_option maxRecDepth 100000 in
theorem f_L_law_1353 : am_cd k_L_law 1353 = some ((some .boolean), .aload_n 2, (0, 0, 0, 0, 0, .null)) := rfl
theorem s_L_law_1353 {a0 a1 a3 : Option Value} {st : List Value} {σ : am_H} {Q : Option Value → am_H → Prop} {x : Nat} : ax k_L_law 1353 [a0, a1, some (.ref x), a3] st σ Q = ax k_L_law 1354 [a0, a1, some (.ref x), a3] (.ref x :: st) σ Q := ru_loc (q := (_, _)) f_L_law_1353 rfl rfl rfl
theorem s_L_law_1353n {a0 a1 a3 : Option Value} {st : List Value} {σ : am_H} {Q : Option Value → am_H → Prop} : ax k_L_law 1353 [a0, a1, some .null, a3] st σ Q = ax k_L_law 1354 [a0, a1, some .null, a3] (.null :: st) σ Q := ru_loc (q := (_, _)) f_L_law_1353 rfl rfl rfl
set_option maxRecDepth 100000 in
theorem f_L_law_1354 : am_cd k_L_law 1354 = some ((some .boolean), .aload_n 0, (0, 0, 0, 0, 0, .null)) := rfl
theorem s_L_law_1354 {a1 a2 a3 : Option Value} {st : List Value} {σ : am_H} {Q : Option Value → am_H → Prop} {x : Nat} : ax k_L_law 1354 [some (.ref x), a1, a2, a3] st σ Q = ax k_L_law 1355 [some (.ref x), a1, a2, a3] (.ref x :: st) σ Q := ru_loc (q := (_, _)) f_L_law_1354 rfl rfl rfl
set_option maxRecDepth 100000 in
theorem f_L_law_1355 : am_cd k_L_law 1355 = some ((some .boolean), .iload_n 3, (0, 0, 0, 0, 0, .null)) := rfl
theorem s_L_law_1355 {a0 a1 a2 : Option Value} {st : List Value} {σ : am_H} {Q : Option Value → am_H → Prop} {x : Int32} : ax k_L_law 1355 [a0, a1, a2, some (.int x)] st σ Q = ax k_L_law 1356 [a0, a1, a2, some (.int x)] (.int x :: st) σ Q := ru_loc (q := (_, _)) f_L_law_1355 rfl rfl rfl
set_option maxRecDepth 100000 in
theorem f_L_law_1356 : am_cd k_L_law 1356 = some ((some .boolean), .iconst 1, (0, 0, 0, 0, 0, .null)) := rfl
theorem s_L_law_1356 {ls : am_L} {st : List Value} {σ : am_H} {Q : Option Value → am_H → Prop} : ax k_L_law 1356 ls st σ Q = ax k_L_law 1357 ls (.int 1 :: st) σ Q := ru_iconst f_L_law_1356 (by decide +kernel) rfl
set_option maxRecDepth 100000 in
theorem f_L_law_1357 : am_cd k_L_law 1357 = some ((some .boolean), .iadd, (0, 0, 0, 0, 0, .null)) := rfl
theorem s_L_law_1357 {ls : am_L} {st : List Value} {σ : am_H} {Q : Option Value → am_H → Prop} {x y : Int32} : ax k_L_law 1357 ls (.int y :: .int x :: st) σ Q = ax k_L_law 1358 ls (.int (x + y) :: st) σ Q := ru_pure f_L_law_1357 rfl rfl
set_option maxRecDepth 100000 in
theorem f_L_law_1358 : am_cd k_L_law 1358 = some ((some .boolean), .iaload, (0, 0, 0, 0, 0, .null)) := rfl
theorem s_L_law_1358 {ls : am_L} {st : List Value} {σ : am_H} {Q : Option Value → am_H → Prop} {a : Nat} {j : Int32} : ax k_L_law 1358 ls (.int j :: .ref a :: st) σ Q = ax_f (am_j σ a) (fun q => q.1 = 0 ∧ am_ix j q.2.1 ∧ ax k_L_law 1359 ls (.int (q.2.2 j.toNatClampNeg) :: st) σ Q) := rv_iald f_L_law_1358 rfl
set_option maxRecDepth 100000 in
theorem f_L_law_1359 : am_cd k_L_law 1359 = some ((some .boolean), .invokevirtual 140, (171, 1, 1337, 0, 11, .null)) := rfl
theorem s_L_law_1359 {ls : am_L} {st : List Value} {σ : am_H} {Q : Option Value → am_H → Prop} {p0 : Int32} {b : Nat} (hi : am_is σ b 11) (h8 : am_s8 st) : ax k_L_law 1359 ls (.int p0 :: .ref b :: st) σ Q = ax k_M_printed 0 [some (.ref b), some (.int p0)] [] σ (ax_k k_L_law 1362 ls st Q) := ru_vir (M' := rk_M_printed) f_L_law_1359 rfl rfl rfl rfl hi h8 rfl rfl rfl rfl rfl
set_option maxRecDepth 100000 in
theorem f_L_law_1362 : am_cd k_L_law 1362 = some ((some .boolean), .if_icmp .eq 28, (1390, 0, 0, 0, 0, .null)) := rfl
theorem s_L_law_1362 {ls : am_L} {st : List Value} {σ : am_H} {Q : Option Value → am_H → Prop} {x y : Int32} : ax k_L_law 1362 ls (.int y :: .int x :: st) σ Q = (if x = y then ax k_L_law 1390 ls st σ Q else ax k_L_law 1365 ls st σ Q) := (ru_icmp f_L_law_1362 rfl).trans (ru_i_eq _ _ _ _)
set_option maxRecDepth 100000 in
theorem f_L_law_1365 : am_cd k_L_law 1365 = some ((some .boolean), .iconst 0, (0, 0, 0, 0, 0, .null)) := rfl
theorem s_L_law_1365 {ls : am_L} {st : List Value} {σ : am_H} {Q : Option Value → am_H → Prop} : ax k_L_law 1365 ls st σ Q = ax k_L_law 1366 ls (.int 0 :: st) σ Q := ru_iconst f_L_law_1365 (by decide +kernel) rfl
set_option maxRecDepth 100000 in
theorem f_L_law_1366 : am_cd k_L_law 1366 = some ((some .boolean), .ireturn, (0, 0, 0, 0, 0, .null)) := rfl
theorem s_L_law_1366 {ls : am_L} {σ : am_H} {Q : Option Value → am_H → Prop} {v : Int32} : ax k_L_law 1366 ls ([.int v]) σ Q = (am_nar .boolean v = true ∧ Q (some (.int v)) σ) := ru_iret f_L_law_1366
set_option maxRecDepth 100000 in
theorem f_L_law_1367 : am_cd k_L_law 1367 = some ((some .boolean), .aload_n 1, (0, 0, 0, 0, 0, .null)) := rfl
theorem s_L_law_1367 {a0 a2 a3 : Option Value} {st : List Value} {σ : am_H} {Q : Option Value → am_H → Prop} {x : Nat} : ax k_L_law 1367 [a0, some (.ref x), a2, a3] st σ Q = ax k_L_law 1368 [a0, some (.ref x), a2, a3] (.ref x :: st) σ Q := ru_loc (q := (_, _)) f_L_law_1367 rfl rfl rfl
theorem s_L_law_1367n {a0 a2 a3 : Option Value} {st : List Value} {σ : am_H} {Q : Option Value → am_H → Prop} : ax k_L_law 1367 [a0, some .null, a2, a3] st σ Q = ax k_L_law 1368 [a0, some .null, a2, a3] (.null :: st) σ Q := ru_loc (q := (_, _)) f_L_law_1367 rfl rfl rfl
set_option maxRecDepth 100000 in
theorem f_L_law_1368 : am_cd k_L_law 1368 = some ((some .boolean), .aload_n 0, (0, 0, 0, 0, 0, .null)) := rfl
theorem s_L_law_1368 {a1 a2 a3 : Option Value} {st : List Value} {σ : am_H} {Q : Option Value → am_H → Prop} {x : Nat} : ax k_L_law 1368 [some (.ref x), a1, a2, a3] st σ Q = ax k_L_law 1369 [some (.ref x), a1, a2, a3] (.ref x :: st) σ Q := ru_loc (q := (_, _)) f_L_law_1368 rfl rfl rfl
set_option maxRecDepth 100000 in
theorem f_L_law_1369 : am_cd k_L_law 1369 = some ((some .boolean), .iload_n 3, (0, 0, 0, 0, 0, .null)) := rfl
theorem s_L_law_1369 {a0 a1 a2 : Option Value} {st : List Value} {σ : am_H} {Q : Option Value → am_H → Prop} {x : Int32} : ax k_L_law 1369 [a0, a1, a2, some (.int x)] st σ Q = ax k_L_law 1370 [a0, a1, a2, some (.int x)] (.int x :: st) σ Q := ru_loc (q := (_, _)) f_L_law_1369 rfl rfl rfl
set_option maxRecDepth 100000 in
theorem f_L_law_1370 : am_cd k_L_law 1370 = some ((some .boolean), .iconst 1, (0, 0, 0, 0, 0, .null)) := rfl
theorem s_L_law_1370 {ls : am_L} {st : List Value} {σ : am_H} {Q : Option Value → am_H → Prop} : ax k_L_law 1370 ls st σ Q = ax k_L_law 1371 ls (.int 1 :: st) σ Q := ru_iconst f_L_law_1370 (by decide +kernel) rfl
set_option maxRecDepth 100000 in
theorem f_L_law_1371 : am_cd k_L_law 1371 = some ((some .boolean), .iadd, (0, 0, 0, 0, 0, .null)) := rfl
theorem s_L_law_1371 {ls : am_L} {st : List Value} {σ : am_H} {Q : Option Value → am_H → Prop} {x y : Int32} : ax k_L_law 1371 ls (.int y :: .int x :: st) σ Q = ax k_L_law 1372 ls (.int (x + y) :: st) σ Q := ru_pure f_L_law_1371 rfl rfl
set_option maxRecDepth 100000 in
theorem f_L_law_1372 : am_cd k_L_law 1372 = some ((some .boolean), .iaload, (0, 0, 0, 0, 0, .null)) := rfl
theorem s_L_law_1372 {ls : am_L} {st : List Value} {σ : am_H} {Q : Option Value → am_H → Prop} {a : Nat} {j : Int32} : ax k_L_law 1372 ls (.int j :: .ref a :: st) σ Q = ax_f (am_j σ a) (fun q => q.1 = 0 ∧ am_ix j q.2.1 ∧ ax k_L_law 1373 ls (.int (q.2.2 j.toNatClampNeg) :: st) σ Q) := rv_iald f_L_law_1372 rfl
set_option maxRecDepth 100000 in
theorem f_L_law_1373 : am_cd k_L_law 1373 = some ((some .boolean), .invokevirtual 141, (98, 1, 907, 0, 10, .null)) := rfl
theorem s_L_law_1373 {ls : am_L} {st : List Value} {σ : am_H} {Q : Option Value → am_H → Prop} {p0 : Int32} {b : Nat} (hi : am_is σ b 10) (h8 : am_s8 st) : ax k_L_law 1373 ls (.int p0 :: .ref b :: st) σ Q = ax k_A_about 0 [some (.ref b), some (.int p0)] [] σ (ax_k k_L_law 1376 ls st Q) := ru_vir (M' := rk_A_about) f_L_law_1373 rfl rfl rfl rfl hi h8 rfl rfl rfl rfl rfl
set_option maxRecDepth 100000 in
theorem f_L_law_1376 : am_cd k_L_law 1376 = some ((some .boolean), .aload_n 2, (0, 0, 0, 0, 0, .null)) := rfl
theorem s_L_law_1376 {a0 a1 a3 : Option Value} {st : List Value} {σ : am_H} {Q : Option Value → am_H → Prop} {x : Nat} : ax k_L_law 1376 [a0, a1, some (.ref x), a3] st σ Q = ax k_L_law 1377 [a0, a1, some (.ref x), a3] (.ref x :: st) σ Q := ru_loc (q := (_, _)) f_L_law_1376 rfl rfl rfl
theorem s_L_law_1376n {a0 a1 a3 : Option Value} {st : List Value} {σ : am_H} {Q : Option Value → am_H → Prop} : ax k_L_law 1376 [a0, a1, some .null, a3] st σ Q = ax k_L_law 1377 [a0, a1, some .null, a3] (.null :: st) σ Q := ru_loc (q := (_, _)) f_L_law_1376 rfl rfl rfl
set_option maxRecDepth 100000 in
theorem f_L_law_1377 : am_cd k_L_law 1377 = some ((some .boolean), .aload_n 0, (0, 0, 0, 0, 0, .null)) := rfl
theorem s_L_law_1377 {a1 a2 a3 : Option Value} {st : List Value} {σ : am_H} {Q : Option Value → am_H → Prop} {x : Nat} : ax k_L_law 1377 [some (.ref x), a1, a2, a3] st σ Q = ax k_L_law 1378 [some (.ref x), a1, a2, a3] (.ref x :: st) σ Q := ru_loc (q := (_, _)) f_L_law_1377 rfl rfl rfl
set_option maxRecDepth 100000 in
theorem f_L_law_1378 : am_cd k_L_law 1378 = some ((some .boolean), .iload_n 3, (0, 0, 0, 0, 0, .null)) := rfl
theorem s_L_law_1378 {a0 a1 a2 : Option Value} {st : List Value} {σ : am_H} {Q : Option Value → am_H → Prop} {x : Int32} : ax k_L_law 1378 [a0, a1, a2, some (.int x)] st σ Q = ax k_L_law 1379 [a0, a1, a2, some (.int x)] (.int x :: st) σ Q := ru_loc (q := (_, _)) f_L_law_1378 rfl rfl rfl
set_option maxRecDepth 100000 in
theorem f_L_law_1379 : am_cd k_L_law 1379 = some ((some .boolean), .iconst 1, (0, 0, 0, 0, 0, .null)) := rfl
theorem s_L_law_1379 {ls : am_L} {st : List Value} {σ : am_H} {Q : Option Value → am_H → Prop} : ax k_L_law 1379 ls st σ Q = ax k_L_law 1380 ls (.int 1 :: st) σ Q := ru_iconst f_L_law_1379 (by decide +kernel) rfl
set_option maxRecDepth 100000 in
theorem f_L_law_1380 : am_cd k_L_law 1380 = some ((some .boolean), .iadd, (0, 0, 0, 0, 0, .null)) := rfl
theorem s_L_law_1380 {ls : am_L} {st : List Value} {σ : am_H} {Q : Option Value → am_H → Prop} {x y : Int32} : ax k_L_law 1380 ls (.int y :: .int x :: st) σ Q = ax k_L_law 1381 ls (.int (x + y) :: st) σ Q := ru_pure f_L_law_1380 rfl rfl
set_option maxRecDepth 100000 in
theorem f_L_law_1381 : am_cd k_L_law 1381 = some ((some .boolean), .iaload, (0, 0, 0, 0, 0, .null)) := rfl
theorem s_L_law_1381 {ls : am_L} {st : List Value} {σ : am_H} {Q : Option Value → am_H → Prop} {a : Nat} {j : Int32} : ax k_L_law 1381 ls (.int j :: .ref a :: st) σ Q = ax_f (am_j σ a) (fun q => q.1 = 0 ∧ am_ix j q.2.1 ∧ ax k_L_law 1382 ls (.int (q.2.2 j.toNatClampNeg) :: st) σ Q) := rv_iald f_L_law_1381 rfl
set_option maxRecDepth 100000 in
theorem f_L_law_1382 : am_cd k_L_law 1382 = some ((some .boolean), .invokevirtual 144, (172, 1, 1341, 0, 11, .null)) := rfl
theorem s_L_law_1382 {ls : am_L} {st : List Value} {σ : am_H} {Q : Option Value → am_H → Prop} {p0 : Int32} {b : Nat} (hi : am_is σ b 11) (h8 : am_s8 st) : ax k_L_law 1382 ls (.int p0 :: .ref b :: st) σ Q = ax k_M_about 0 [some (.ref b), some (.int p0), none, none] [] σ (ax_k k_L_law 1385 ls st Q) := ru_vir (M' := rk_M_about) f_L_law_1382 rfl rfl rfl rfl hi h8 rfl rfl rfl rfl rfl
set_option maxRecDepth 100000 in
theorem f_L_law_1385 : am_cd k_L_law 1385 = some ((some .boolean), .if_icmp .eq 5, (1390, 0, 0, 0, 0, .null)) := rfl
theorem s_L_law_1385 {ls : am_L} {st : List Value} {σ : am_H} {Q : Option Value → am_H → Prop} {x y : Int32} : ax k_L_law 1385 ls (.int y :: .int x :: st) σ Q = (if x = y then ax k_L_law 1390 ls st σ Q else ax k_L_law 1388 ls st σ Q) := (ru_icmp f_L_law_1385 rfl).trans (ru_i_eq _ _ _ _)
set_option maxRecDepth 100000 in
theorem f_L_law_1388 : am_cd k_L_law 1388 = some ((some .boolean), .iconst 0, (0, 0, 0, 0, 0, .null)) := rfl
theorem s_L_law_1388 {ls : am_L} {st : List Value} {σ : am_H} {Q : Option Value → am_H → Prop} : ax k_L_law 1388 ls st σ Q = ax k_L_law 1389 ls (.int 0 :: st) σ Q := ru_iconst f_L_law_1388 (by decide +kernel) rfl
set_option maxRecDepth 100000 in
theorem f_L_law_1389 : am_cd k_L_law 1389 = some ((some .boolean), .ireturn, (0, 0, 0, 0, 0, .null)) := rfl
theorem s_L_law_1389 {ls : am_L} {σ : am_H} {Q : Option Value → am_H → Prop} {v : Int32} : ax k_L_law 1389 ls ([.int v]) σ Q = (am_nar .boolean v = true ∧ Q (some (.int v)) σ) := ru_iret f_L_law_1389
set_option maxRecDepth 100000 in
theorem f_L_law_1390 : am_cd k_L_law 1390 = some ((some .boolean), .iinc 3 7, (0, 0, 0, 0, 0, .null)) := rfl
theorem s_L_law_1390 {a0 a1 a2 : Option Value} {st : List Value} {σ : am_H} {Q : Option Value → am_H → Prop} {x : Int32} (hc : am_c2 a2 = false) : ax k_L_law 1390 [a0, a1, a2, some (.int x)] st σ Q = ax k_L_law 1393 [a0, a1, a2, some (.int (x + 7))] st σ Q := ru_iinc f_L_law_1390 rfl (Nat.le_of_ble_eq_true rfl) (by decide +kernel) (ru_st1 (Nat.le_of_ble_eq_true rfl) (am_clr_c2 hc rfl) rfl) rfl
set_option maxRecDepth 100000 in
theorem f_L_law_1393 : am_cd k_L_law 1393 = some ((some .boolean), .goto (-1375), (18, 0, 0, 0, 0, .null)) := rfl
theorem s_L_law_1393 {ls : am_L} {st : List Value} {σ : am_H} {Q : Option Value → am_H → Prop} : ax k_L_law 1393 ls st σ Q = ax k_L_law 18 ls st σ Q := ru_goto f_L_law_1393
set_option maxRecDepth 100000 in
theorem f_L_law_1396 : am_cd k_L_law 1396 = some ((some .boolean), .iconst 1, (0, 0, 0, 0, 0, .null)) := rfl
theorem s_L_law_1396 {ls : am_L} {st : List Value} {σ : am_H} {Q : Option Value → am_H → Prop} : ax k_L_law 1396 ls st σ Q = ax k_L_law 1397 ls (.int 1 :: st) σ Q := ru_iconst f_L_law_1396 (by decide +kernel) rfl
set_option maxRecDepth 100000 in
theorem f_L_law_1397 : am_cd k_L_law 1397 = some ((some .boolean), .ireturn, (0, 0, 0, 0, 0, .null)) := rfl
theorem s_L_law_1397 {ls : am_L} {σ : am_H} {Q : Option Value → am_H → Prop} {v : Int32} : ax k_L_law 1397 ls ([.int v]) σ Q = (am_nar .boolean v = true ∧ Q (some (.int v)) σ) := ru_iret f_L_law_1397
