/-! rules of the code, by program -/
theorem f_M_init_0 : am_cd k_M_init 0 = some (none, .aload_n 0, (0, 0, 0, 0, 0, .null)) := rfl
theorem s_M_init_0 {st : List Value} {σ : am_H} {Q : Option Value → am_H → Prop} {x : Nat} : ax k_M_init 0 [some (.ref x)] st σ Q = ax k_M_init 1 [some (.ref x)] (.ref x :: st) σ Q := ru_loc (q := (_, _)) f_M_init_0 rfl rfl rfl
theorem f_M_init_1 : am_cd k_M_init 1 = some (none, .invokespecial 1, (99999, 0, 916, 0, 0, .null)) := rfl
theorem s_M_init_1 {ls : am_L} {st : List Value} {σ : am_H} {Q : Option Value → am_H → Prop} {a : Nat} (h8 : am_s8 st) : ax k_M_init 1 ls (.ref a :: st) σ Q = ax k_M_init 4 ls st σ Q := ru_obj f_M_init_1 rfl h8 rfl
theorem f_M_init_4 : am_cd k_M_init 4 = some (none, .aload_n 0, (0, 0, 0, 0, 0, .null)) := rfl
theorem s_M_init_4 {st : List Value} {σ : am_H} {Q : Option Value → am_H → Prop} {x : Nat} : ax k_M_init 4 [some (.ref x)] st σ Q = ax k_M_init 5 [some (.ref x)] (.ref x :: st) σ Q := ru_loc (q := (_, _)) f_M_init_4 rfl rfl rfl
theorem f_M_init_5 : am_cd k_M_init 5 = some (none, .sipush 140, (0, 0, 0, 0, 0, .null)) := rfl
theorem s_M_init_5 {ls : am_L} {st : List Value} {σ : am_H} {Q : Option Value → am_H → Prop} : ax k_M_init 5 ls st σ Q = ax k_M_init 8 ls (.int 140 :: st) σ Q := ru_sipush f_M_init_5 (by decide +kernel) rfl
theorem f_M_init_8 : am_cd k_M_init 8 = some (none, .newarray .int, (0, 0, 108, 0, 0, .null)) := rfl
theorem s_M_init_8 {ls : am_L} {st : List Value} {σ : am_H} {Q : Option Value → am_H → Prop} {n : Int32} : ax k_M_init 8 ls (.int n :: st) σ Q = (am_mk n σ ∧ ax k_M_init 10 ls (.ref σ.1 :: st) (am_new σ n.toNatClampNeg (am_ia 0 n.toNatClampNeg (fun _ => 0))) Q) := ru_newi f_M_init_8 rfl
theorem f_M_init_10 : am_cd k_M_init 10 = some (none, .putfield 7, (11, 4, 921, 0, 3, .null)) := rfl
theorem s_M_init_10 {ls : am_L} {st : List Value} {σ : am_H} {Q : Option Value → am_H → Prop} {a : Nat} {v : Value} : ax k_M_init 10 ls (v :: .ref a :: st) σ Q = ax_f (am_fld σ a 11 4) (fun _ => a < am_top ∧ am_okv 3 v = true ∧ ax k_M_init 13 ls st (am_put σ a 4 v) Q) := ru_putf f_M_init_10 rfl
theorem f_M_init_13 : am_cd k_M_init 13 = some (none, .aload_n 0, (0, 0, 0, 0, 0, .null)) := rfl
theorem s_M_init_13 {st : List Value} {σ : am_H} {Q : Option Value → am_H → Prop} {x : Nat} : ax k_M_init 13 [some (.ref x)] st σ Q = ax k_M_init 14 [some (.ref x)] (.ref x :: st) σ Q := ru_loc (q := (_, _)) f_M_init_13 rfl rfl rfl
theorem f_M_init_14 : am_cd k_M_init 14 = some (none, .sipush 140, (0, 0, 0, 0, 0, .null)) := rfl
theorem s_M_init_14 {ls : am_L} {st : List Value} {σ : am_H} {Q : Option Value → am_H → Prop} : ax k_M_init 14 ls st σ Q = ax k_M_init 17 ls (.int 140 :: st) σ Q := ru_sipush f_M_init_14 (by decide +kernel) rfl
theorem f_M_init_17 : am_cd k_M_init 17 = some (none, .newarray .int, (0, 0, 108, 0, 0, .null)) := rfl
theorem s_M_init_17 {ls : am_L} {st : List Value} {σ : am_H} {Q : Option Value → am_H → Prop} {n : Int32} : ax k_M_init 17 ls (.int n :: st) σ Q = (am_mk n σ ∧ ax k_M_init 19 ls (.ref σ.1 :: st) (am_new σ n.toNatClampNeg (am_ia 0 n.toNatClampNeg (fun _ => 0))) Q) := ru_newi f_M_init_17 rfl
theorem f_M_init_19 : am_cd k_M_init 19 = some (none, .putfield 13, (11, 5, 922, 0, 3, .null)) := rfl
theorem s_M_init_19 {ls : am_L} {st : List Value} {σ : am_H} {Q : Option Value → am_H → Prop} {a : Nat} {v : Value} : ax k_M_init 19 ls (v :: .ref a :: st) σ Q = ax_f (am_fld σ a 11 5) (fun _ => a < am_top ∧ am_okv 3 v = true ∧ ax k_M_init 22 ls st (am_put σ a 5 v) Q) := ru_putf f_M_init_19 rfl
theorem f_M_init_22 : am_cd k_M_init 22 = some (none, .aload_n 0, (0, 0, 0, 0, 0, .null)) := rfl
theorem s_M_init_22 {st : List Value} {σ : am_H} {Q : Option Value → am_H → Prop} {x : Nat} : ax k_M_init 22 [some (.ref x)] st σ Q = ax k_M_init 23 [some (.ref x)] (.ref x :: st) σ Q := ru_loc (q := (_, _)) f_M_init_22 rfl rfl rfl
theorem f_M_init_23 : am_cd k_M_init 23 = some (none, .sipush 140, (0, 0, 0, 0, 0, .null)) := rfl
theorem s_M_init_23 {ls : am_L} {st : List Value} {σ : am_H} {Q : Option Value → am_H → Prop} : ax k_M_init 23 ls st σ Q = ax k_M_init 26 ls (.int 140 :: st) σ Q := ru_sipush f_M_init_23 (by decide +kernel) rfl
theorem f_M_init_26 : am_cd k_M_init 26 = some (none, .newarray .int, (0, 0, 108, 0, 0, .null)) := rfl
theorem s_M_init_26 {ls : am_L} {st : List Value} {σ : am_H} {Q : Option Value → am_H → Prop} {n : Int32} : ax k_M_init 26 ls (.int n :: st) σ Q = (am_mk n σ ∧ ax k_M_init 28 ls (.ref σ.1 :: st) (am_new σ n.toNatClampNeg (am_ia 0 n.toNatClampNeg (fun _ => 0))) Q) := ru_newi f_M_init_26 rfl
theorem f_M_init_28 : am_cd k_M_init 28 = some (none, .putfield 16, (11, 6, 923, 0, 3, .null)) := rfl
theorem s_M_init_28 {ls : am_L} {st : List Value} {σ : am_H} {Q : Option Value → am_H → Prop} {a : Nat} {v : Value} : ax k_M_init 28 ls (v :: .ref a :: st) σ Q = ax_f (am_fld σ a 11 6) (fun _ => a < am_top ∧ am_okv 3 v = true ∧ ax k_M_init 31 ls st (am_put σ a 6 v) Q) := ru_putf f_M_init_28 rfl
theorem f_M_init_31 : am_cd k_M_init 31 = some (none, .aload_n 0, (0, 0, 0, 0, 0, .null)) := rfl
theorem s_M_init_31 {st : List Value} {σ : am_H} {Q : Option Value → am_H → Prop} {x : Nat} : ax k_M_init 31 [some (.ref x)] st σ Q = ax k_M_init 32 [some (.ref x)] (.ref x :: st) σ Q := ru_loc (q := (_, _)) f_M_init_31 rfl rfl rfl
theorem f_M_init_32 : am_cd k_M_init 32 = some (none, .bipush 40, (0, 0, 0, 0, 0, .null)) := rfl
theorem s_M_init_32 {ls : am_L} {st : List Value} {σ : am_H} {Q : Option Value → am_H → Prop} : ax k_M_init 32 ls st σ Q = ax k_M_init 34 ls (.int 40 :: st) σ Q := ru_bipush f_M_init_32 (by decide +kernel) rfl
theorem f_M_init_34 : am_cd k_M_init 34 = some (none, .newarray .int, (0, 0, 108, 0, 0, .null)) := rfl
theorem s_M_init_34 {ls : am_L} {st : List Value} {σ : am_H} {Q : Option Value → am_H → Prop} {n : Int32} : ax k_M_init 34 ls (.int n :: st) σ Q = (am_mk n σ ∧ ax k_M_init 36 ls (.ref σ.1 :: st) (am_new σ n.toNatClampNeg (am_ia 0 n.toNatClampNeg (fun _ => 0))) Q) := ru_newi f_M_init_34 rfl
theorem f_M_init_36 : am_cd k_M_init 36 = some (none, .putfield 19, (11, 8, 925, 0, 3, .null)) := rfl
theorem s_M_init_36 {ls : am_L} {st : List Value} {σ : am_H} {Q : Option Value → am_H → Prop} {a : Nat} {v : Value} : ax k_M_init 36 ls (v :: .ref a :: st) σ Q = ax_f (am_fld σ a 11 8) (fun _ => a < am_top ∧ am_okv 3 v = true ∧ ax k_M_init 39 ls st (am_put σ a 8 v) Q) := ru_putf f_M_init_36 rfl
theorem f_M_init_39 : am_cd k_M_init 39 = some (none, .aload_n 0, (0, 0, 0, 0, 0, .null)) := rfl
theorem s_M_init_39 {st : List Value} {σ : am_H} {Q : Option Value → am_H → Prop} {x : Nat} : ax k_M_init 39 [some (.ref x)] st σ Q = ax k_M_init 40 [some (.ref x)] (.ref x :: st) σ Q := ru_loc (q := (_, _)) f_M_init_39 rfl rfl rfl
theorem f_M_init_40 : am_cd k_M_init 40 = some (none, .bipush 40, (0, 0, 0, 0, 0, .null)) := rfl
theorem s_M_init_40 {ls : am_L} {st : List Value} {σ : am_H} {Q : Option Value → am_H → Prop} : ax k_M_init 40 ls st σ Q = ax k_M_init 42 ls (.int 40 :: st) σ Q := ru_bipush f_M_init_40 (by decide +kernel) rfl
theorem f_M_init_42 : am_cd k_M_init 42 = some (none, .newarray .int, (0, 0, 108, 0, 0, .null)) := rfl
theorem s_M_init_42 {ls : am_L} {st : List Value} {σ : am_H} {Q : Option Value → am_H → Prop} {n : Int32} : ax k_M_init 42 ls (.int n :: st) σ Q = (am_mk n σ ∧ ax k_M_init 44 ls (.ref σ.1 :: st) (am_new σ n.toNatClampNeg (am_ia 0 n.toNatClampNeg (fun _ => 0))) Q) := ru_newi f_M_init_42 rfl
theorem f_M_init_44 : am_cd k_M_init 44 = some (none, .putfield 22, (11, 9, 926, 0, 3, .null)) := rfl
theorem s_M_init_44 {ls : am_L} {st : List Value} {σ : am_H} {Q : Option Value → am_H → Prop} {a : Nat} {v : Value} : ax k_M_init 44 ls (v :: .ref a :: st) σ Q = ax_f (am_fld σ a 11 9) (fun _ => a < am_top ∧ am_okv 3 v = true ∧ ax k_M_init 47 ls st (am_put σ a 9 v) Q) := ru_putf f_M_init_44 rfl
theorem f_M_init_47 : am_cd k_M_init 47 = some (none, .aload_n 0, (0, 0, 0, 0, 0, .null)) := rfl
theorem s_M_init_47 {st : List Value} {σ : am_H} {Q : Option Value → am_H → Prop} {x : Nat} : ax k_M_init 47 [some (.ref x)] st σ Q = ax k_M_init 48 [some (.ref x)] (.ref x :: st) σ Q := ru_loc (q := (_, _)) f_M_init_47 rfl rfl rfl
theorem f_M_init_48 : am_cd k_M_init 48 = some (none, .bipush 40, (0, 0, 0, 0, 0, .null)) := rfl
theorem s_M_init_48 {ls : am_L} {st : List Value} {σ : am_H} {Q : Option Value → am_H → Prop} : ax k_M_init 48 ls st σ Q = ax k_M_init 50 ls (.int 40 :: st) σ Q := ru_bipush f_M_init_48 (by decide +kernel) rfl
theorem f_M_init_50 : am_cd k_M_init 50 = some (none, .newarray .int, (0, 0, 108, 0, 0, .null)) := rfl
theorem s_M_init_50 {ls : am_L} {st : List Value} {σ : am_H} {Q : Option Value → am_H → Prop} {n : Int32} : ax k_M_init 50 ls (.int n :: st) σ Q = (am_mk n σ ∧ ax k_M_init 52 ls (.ref σ.1 :: st) (am_new σ n.toNatClampNeg (am_ia 0 n.toNatClampNeg (fun _ => 0))) Q) := ru_newi f_M_init_50 rfl
theorem f_M_init_52 : am_cd k_M_init 52 = some (none, .putfield 25, (11, 10, 927, 0, 3, .null)) := rfl
theorem s_M_init_52 {ls : am_L} {st : List Value} {σ : am_H} {Q : Option Value → am_H → Prop} {a : Nat} {v : Value} : ax k_M_init 52 ls (v :: .ref a :: st) σ Q = ax_f (am_fld σ a 11 10) (fun _ => a < am_top ∧ am_okv 3 v = true ∧ ax k_M_init 55 ls st (am_put σ a 10 v) Q) := ru_putf f_M_init_52 rfl
theorem f_M_init_55 : am_cd k_M_init 55 = some (none, .aload_n 0, (0, 0, 0, 0, 0, .null)) := rfl
theorem s_M_init_55 {st : List Value} {σ : am_H} {Q : Option Value → am_H → Prop} {x : Nat} : ax k_M_init 55 [some (.ref x)] st σ Q = ax k_M_init 56 [some (.ref x)] (.ref x :: st) σ Q := ru_loc (q := (_, _)) f_M_init_55 rfl rfl rfl
theorem f_M_init_56 : am_cd k_M_init 56 = some (none, .bipush 40, (0, 0, 0, 0, 0, .null)) := rfl
theorem s_M_init_56 {ls : am_L} {st : List Value} {σ : am_H} {Q : Option Value → am_H → Prop} : ax k_M_init 56 ls st σ Q = ax k_M_init 58 ls (.int 40 :: st) σ Q := ru_bipush f_M_init_56 (by decide +kernel) rfl
theorem f_M_init_58 : am_cd k_M_init 58 = some (none, .newarray .int, (0, 0, 108, 0, 0, .null)) := rfl
theorem s_M_init_58 {ls : am_L} {st : List Value} {σ : am_H} {Q : Option Value → am_H → Prop} {n : Int32} : ax k_M_init 58 ls (.int n :: st) σ Q = (am_mk n σ ∧ ax k_M_init 60 ls (.ref σ.1 :: st) (am_new σ n.toNatClampNeg (am_ia 0 n.toNatClampNeg (fun _ => 0))) Q) := ru_newi f_M_init_58 rfl
theorem f_M_init_60 : am_cd k_M_init 60 = some (none, .putfield 28, (11, 11, 928, 0, 3, .null)) := rfl
theorem s_M_init_60 {ls : am_L} {st : List Value} {σ : am_H} {Q : Option Value → am_H → Prop} {a : Nat} {v : Value} : ax k_M_init 60 ls (v :: .ref a :: st) σ Q = ax_f (am_fld σ a 11 11) (fun _ => a < am_top ∧ am_okv 3 v = true ∧ ax k_M_init 63 ls st (am_put σ a 11 v) Q) := ru_putf f_M_init_60 rfl
theorem f_M_init_63 : am_cd k_M_init 63 = some (none, .aload_n 0, (0, 0, 0, 0, 0, .null)) := rfl
theorem s_M_init_63 {st : List Value} {σ : am_H} {Q : Option Value → am_H → Prop} {x : Nat} : ax k_M_init 63 [some (.ref x)] st σ Q = ax k_M_init 64 [some (.ref x)] (.ref x :: st) σ Q := ru_loc (q := (_, _)) f_M_init_63 rfl rfl rfl
theorem f_M_init_64 : am_cd k_M_init 64 = some (none, .sipush 640, (0, 0, 0, 0, 0, .null)) := rfl
theorem s_M_init_64 {ls : am_L} {st : List Value} {σ : am_H} {Q : Option Value → am_H → Prop} : ax k_M_init 64 ls st σ Q = ax k_M_init 67 ls (.int 640 :: st) σ Q := ru_sipush f_M_init_64 (by decide +kernel) rfl
theorem f_M_init_67 : am_cd k_M_init 67 = some (none, .newarray .int, (0, 0, 108, 0, 0, .null)) := rfl
theorem s_M_init_67 {ls : am_L} {st : List Value} {σ : am_H} {Q : Option Value → am_H → Prop} {n : Int32} : ax k_M_init 67 ls (.int n :: st) σ Q = (am_mk n σ ∧ ax k_M_init 69 ls (.ref σ.1 :: st) (am_new σ n.toNatClampNeg (am_ia 0 n.toNatClampNeg (fun _ => 0))) Q) := ru_newi f_M_init_67 rfl
theorem f_M_init_69 : am_cd k_M_init 69 = some (none, .putfield 31, (11, 12, 929, 0, 3, .null)) := rfl
theorem s_M_init_69 {ls : am_L} {st : List Value} {σ : am_H} {Q : Option Value → am_H → Prop} {a : Nat} {v : Value} : ax k_M_init 69 ls (v :: .ref a :: st) σ Q = ax_f (am_fld σ a 11 12) (fun _ => a < am_top ∧ am_okv 3 v = true ∧ ax k_M_init 72 ls st (am_put σ a 12 v) Q) := ru_putf f_M_init_69 rfl
theorem f_M_init_72 : am_cd k_M_init 72 = some (none, .aload_n 0, (0, 0, 0, 0, 0, .null)) := rfl
theorem s_M_init_72 {st : List Value} {σ : am_H} {Q : Option Value → am_H → Prop} {x : Nat} : ax k_M_init 72 [some (.ref x)] st σ Q = ax k_M_init 73 [some (.ref x)] (.ref x :: st) σ Q := ru_loc (q := (_, _)) f_M_init_72 rfl rfl rfl
theorem f_M_init_73 : am_cd k_M_init 73 = some (none, .sipush 200, (0, 0, 0, 0, 0, .null)) := rfl
theorem s_M_init_73 {ls : am_L} {st : List Value} {σ : am_H} {Q : Option Value → am_H → Prop} : ax k_M_init 73 ls st σ Q = ax k_M_init 76 ls (.int 200 :: st) σ Q := ru_sipush f_M_init_73 (by decide +kernel) rfl
theorem f_M_init_76 : am_cd k_M_init 76 = some (none, .newarray .int, (0, 0, 108, 0, 0, .null)) := rfl
theorem s_M_init_76 {ls : am_L} {st : List Value} {σ : am_H} {Q : Option Value → am_H → Prop} {n : Int32} : ax k_M_init 76 ls (.int n :: st) σ Q = (am_mk n σ ∧ ax k_M_init 78 ls (.ref σ.1 :: st) (am_new σ n.toNatClampNeg (am_ia 0 n.toNatClampNeg (fun _ => 0))) Q) := ru_newi f_M_init_76 rfl
theorem f_M_init_78 : am_cd k_M_init 78 = some (none, .putfield 34, (11, 14, 931, 0, 3, .null)) := rfl
theorem s_M_init_78 {ls : am_L} {st : List Value} {σ : am_H} {Q : Option Value → am_H → Prop} {a : Nat} {v : Value} : ax k_M_init 78 ls (v :: .ref a :: st) σ Q = ax_f (am_fld σ a 11 14) (fun _ => a < am_top ∧ am_okv 3 v = true ∧ ax k_M_init 81 ls st (am_put σ a 14 v) Q) := ru_putf f_M_init_78 rfl
theorem f_M_init_81 : am_cd k_M_init 81 = some (none, .aload_n 0, (0, 0, 0, 0, 0, .null)) := rfl
theorem s_M_init_81 {st : List Value} {σ : am_H} {Q : Option Value → am_H → Prop} {x : Nat} : ax k_M_init 81 [some (.ref x)] st σ Q = ax k_M_init 82 [some (.ref x)] (.ref x :: st) σ Q := ru_loc (q := (_, _)) f_M_init_81 rfl rfl rfl
theorem f_M_init_82 : am_cd k_M_init 82 = some (none, .sipush 200, (0, 0, 0, 0, 0, .null)) := rfl
theorem s_M_init_82 {ls : am_L} {st : List Value} {σ : am_H} {Q : Option Value → am_H → Prop} : ax k_M_init 82 ls st σ Q = ax k_M_init 85 ls (.int 200 :: st) σ Q := ru_sipush f_M_init_82 (by decide +kernel) rfl
theorem f_M_init_85 : am_cd k_M_init 85 = some (none, .newarray .int, (0, 0, 108, 0, 0, .null)) := rfl
theorem s_M_init_85 {ls : am_L} {st : List Value} {σ : am_H} {Q : Option Value → am_H → Prop} {n : Int32} : ax k_M_init 85 ls (.int n :: st) σ Q = (am_mk n σ ∧ ax k_M_init 87 ls (.ref σ.1 :: st) (am_new σ n.toNatClampNeg (am_ia 0 n.toNatClampNeg (fun _ => 0))) Q) := ru_newi f_M_init_85 rfl
theorem f_M_init_87 : am_cd k_M_init 87 = some (none, .putfield 37, (11, 15, 932, 0, 3, .null)) := rfl
theorem s_M_init_87 {ls : am_L} {st : List Value} {σ : am_H} {Q : Option Value → am_H → Prop} {a : Nat} {v : Value} : ax k_M_init 87 ls (v :: .ref a :: st) σ Q = ax_f (am_fld σ a 11 15) (fun _ => a < am_top ∧ am_okv 3 v = true ∧ ax k_M_init 90 ls st (am_put σ a 15 v) Q) := ru_putf f_M_init_87 rfl
theorem f_M_init_90 : am_cd k_M_init 90 = some (none, .aload_n 0, (0, 0, 0, 0, 0, .null)) := rfl
theorem s_M_init_90 {st : List Value} {σ : am_H} {Q : Option Value → am_H → Prop} {x : Nat} : ax k_M_init 90 [some (.ref x)] st σ Q = ax k_M_init 91 [some (.ref x)] (.ref x :: st) σ Q := ru_loc (q := (_, _)) f_M_init_90 rfl rfl rfl
theorem f_M_init_91 : am_cd k_M_init 91 = some (none, .sipush 200, (0, 0, 0, 0, 0, .null)) := rfl
theorem s_M_init_91 {ls : am_L} {st : List Value} {σ : am_H} {Q : Option Value → am_H → Prop} : ax k_M_init 91 ls st σ Q = ax k_M_init 94 ls (.int 200 :: st) σ Q := ru_sipush f_M_init_91 (by decide +kernel) rfl
theorem f_M_init_94 : am_cd k_M_init 94 = some (none, .newarray .int, (0, 0, 108, 0, 0, .null)) := rfl
theorem s_M_init_94 {ls : am_L} {st : List Value} {σ : am_H} {Q : Option Value → am_H → Prop} {n : Int32} : ax k_M_init 94 ls (.int n :: st) σ Q = (am_mk n σ ∧ ax k_M_init 96 ls (.ref σ.1 :: st) (am_new σ n.toNatClampNeg (am_ia 0 n.toNatClampNeg (fun _ => 0))) Q) := ru_newi f_M_init_94 rfl
theorem f_M_init_96 : am_cd k_M_init 96 = some (none, .putfield 40, (11, 16, 933, 0, 3, .null)) := rfl
theorem s_M_init_96 {ls : am_L} {st : List Value} {σ : am_H} {Q : Option Value → am_H → Prop} {a : Nat} {v : Value} : ax k_M_init 96 ls (v :: .ref a :: st) σ Q = ax_f (am_fld σ a 11 16) (fun _ => a < am_top ∧ am_okv 3 v = true ∧ ax k_M_init 99 ls st (am_put σ a 16 v) Q) := ru_putf f_M_init_96 rfl
theorem f_M_init_99 : am_cd k_M_init 99 = some (none, .aload_n 0, (0, 0, 0, 0, 0, .null)) := rfl
theorem s_M_init_99 {st : List Value} {σ : am_H} {Q : Option Value → am_H → Prop} {x : Nat} : ax k_M_init 99 [some (.ref x)] st σ Q = ax k_M_init 100 [some (.ref x)] (.ref x :: st) σ Q := ru_loc (q := (_, _)) f_M_init_99 rfl rfl rfl
theorem f_M_init_100 : am_cd k_M_init 100 = some (none, .sipush 200, (0, 0, 0, 0, 0, .null)) := rfl
theorem s_M_init_100 {ls : am_L} {st : List Value} {σ : am_H} {Q : Option Value → am_H → Prop} : ax k_M_init 100 ls st σ Q = ax k_M_init 103 ls (.int 200 :: st) σ Q := ru_sipush f_M_init_100 (by decide +kernel) rfl
theorem f_M_init_103 : am_cd k_M_init 103 = some (none, .newarray .boolean, (0, 0, 1104, 0, 0, .null)) := rfl
theorem s_M_init_103 {ls : am_L} {st : List Value} {σ : am_H} {Q : Option Value → am_H → Prop} {n : Int32} : ax k_M_init 103 ls (.int n :: st) σ Q = (am_mk n σ ∧ ax k_M_init 105 ls (.ref σ.1 :: st) (am_new σ n.toNatClampNeg (am_ia 1 n.toNatClampNeg (fun _ => 0))) Q) := ru_newz f_M_init_103 rfl
theorem f_M_init_105 : am_cd k_M_init 105 = some (none, .putfield 43, (11, 17, 934, 0, 3, .null)) := rfl
theorem s_M_init_105 {ls : am_L} {st : List Value} {σ : am_H} {Q : Option Value → am_H → Prop} {a : Nat} {v : Value} : ax k_M_init 105 ls (v :: .ref a :: st) σ Q = ax_f (am_fld σ a 11 17) (fun _ => a < am_top ∧ am_okv 3 v = true ∧ ax k_M_init 108 ls st (am_put σ a 17 v) Q) := ru_putf f_M_init_105 rfl
theorem f_M_init_108 : am_cd k_M_init 108 = some (none, .aload_n 0, (0, 0, 0, 0, 0, .null)) := rfl
theorem s_M_init_108 {st : List Value} {σ : am_H} {Q : Option Value → am_H → Prop} {x : Nat} : ax k_M_init 108 [some (.ref x)] st σ Q = ax k_M_init 109 [some (.ref x)] (.ref x :: st) σ Q := ru_loc (q := (_, _)) f_M_init_108 rfl rfl rfl
theorem f_M_init_109 : am_cd k_M_init 109 = some (none, .bipush 10, (0, 0, 0, 0, 0, .null)) := rfl
theorem s_M_init_109 {ls : am_L} {st : List Value} {σ : am_H} {Q : Option Value → am_H → Prop} : ax k_M_init 109 ls st σ Q = ax k_M_init 111 ls (.int 10 :: st) σ Q := ru_bipush f_M_init_109 (by decide +kernel) rfl
theorem f_M_init_111 : am_cd k_M_init 111 = some (none, .putfield 47, (11, 18, 935, 0, 0, .null)) := rfl
theorem s_M_init_111 {ls : am_L} {st : List Value} {σ : am_H} {Q : Option Value → am_H → Prop} {a : Nat} {v : Value} : ax k_M_init 111 ls (v :: .ref a :: st) σ Q = ax_f (am_fld σ a 11 18) (fun _ => a < am_top ∧ am_okv 0 v = true ∧ ax k_M_init 114 ls st (am_put σ a 18 v) Q) := ru_putf f_M_init_111 rfl
theorem f_M_init_114 : am_cd k_M_init 114 = some (none, .aload_n 0, (0, 0, 0, 0, 0, .null)) := rfl
theorem s_M_init_114 {st : List Value} {σ : am_H} {Q : Option Value → am_H → Prop} {x : Nat} : ax k_M_init 114 [some (.ref x)] st σ Q = ax k_M_init 115 [some (.ref x)] (.ref x :: st) σ Q := ru_loc (q := (_, _)) f_M_init_114 rfl rfl rfl
theorem f_M_init_115 : am_cd k_M_init 115 = some (none, .bipush 100, (0, 0, 0, 0, 0, .null)) := rfl
theorem s_M_init_115 {ls : am_L} {st : List Value} {σ : am_H} {Q : Option Value → am_H → Prop} : ax k_M_init 115 ls st σ Q = ax k_M_init 117 ls (.int 100 :: st) σ Q := ru_bipush f_M_init_115 (by decide +kernel) rfl
theorem f_M_init_117 : am_cd k_M_init 117 = some (none, .newarray .int, (0, 0, 108, 0, 0, .null)) := rfl
theorem s_M_init_117 {ls : am_L} {st : List Value} {σ : am_H} {Q : Option Value → am_H → Prop} {n : Int32} : ax k_M_init 117 ls (.int n :: st) σ Q = (am_mk n σ ∧ ax k_M_init 119 ls (.ref σ.1 :: st) (am_new σ n.toNatClampNeg (am_ia 0 n.toNatClampNeg (fun _ => 0))) Q) := ru_newi f_M_init_117 rfl
theorem f_M_init_119 : am_cd k_M_init 119 = some (none, .putfield 51, (11, 20, 937, 0, 3, .null)) := rfl
theorem s_M_init_119 {ls : am_L} {st : List Value} {σ : am_H} {Q : Option Value → am_H → Prop} {a : Nat} {v : Value} : ax k_M_init 119 ls (v :: .ref a :: st) σ Q = ax_f (am_fld σ a 11 20) (fun _ => a < am_top ∧ am_okv 3 v = true ∧ ax k_M_init 122 ls st (am_put σ a 20 v) Q) := ru_putf f_M_init_119 rfl
theorem f_M_init_122 : am_cd k_M_init 122 = some (none, .aload_n 0, (0, 0, 0, 0, 0, .null)) := rfl
theorem s_M_init_122 {st : List Value} {σ : am_H} {Q : Option Value → am_H → Prop} {x : Nat} : ax k_M_init 122 [some (.ref x)] st σ Q = ax k_M_init 123 [some (.ref x)] (.ref x :: st) σ Q := ru_loc (q := (_, _)) f_M_init_122 rfl rfl rfl
theorem f_M_init_123 : am_cd k_M_init 123 = some (none, .bipush 100, (0, 0, 0, 0, 0, .null)) := rfl
theorem s_M_init_123 {ls : am_L} {st : List Value} {σ : am_H} {Q : Option Value → am_H → Prop} : ax k_M_init 123 ls st σ Q = ax k_M_init 125 ls (.int 100 :: st) σ Q := ru_bipush f_M_init_123 (by decide +kernel) rfl
theorem f_M_init_125 : am_cd k_M_init 125 = some (none, .newarray .int, (0, 0, 108, 0, 0, .null)) := rfl
theorem s_M_init_125 {ls : am_L} {st : List Value} {σ : am_H} {Q : Option Value → am_H → Prop} {n : Int32} : ax k_M_init 125 ls (.int n :: st) σ Q = (am_mk n σ ∧ ax k_M_init 127 ls (.ref σ.1 :: st) (am_new σ n.toNatClampNeg (am_ia 0 n.toNatClampNeg (fun _ => 0))) Q) := ru_newi f_M_init_125 rfl
theorem f_M_init_127 : am_cd k_M_init 127 = some (none, .putfield 54, (11, 21, 938, 0, 3, .null)) := rfl
theorem s_M_init_127 {ls : am_L} {st : List Value} {σ : am_H} {Q : Option Value → am_H → Prop} {a : Nat} {v : Value} : ax k_M_init 127 ls (v :: .ref a :: st) σ Q = ax_f (am_fld σ a 11 21) (fun _ => a < am_top ∧ am_okv 3 v = true ∧ ax k_M_init 130 ls st (am_put σ a 21 v) Q) := ru_putf f_M_init_127 rfl
theorem f_M_init_130 : am_cd k_M_init 130 = some (none, .aload_n 0, (0, 0, 0, 0, 0, .null)) := rfl
theorem s_M_init_130 {st : List Value} {σ : am_H} {Q : Option Value → am_H → Prop} {x : Nat} : ax k_M_init 130 [some (.ref x)] st σ Q = ax k_M_init 131 [some (.ref x)] (.ref x :: st) σ Q := ru_loc (q := (_, _)) f_M_init_130 rfl rfl rfl
theorem f_M_init_131 : am_cd k_M_init 131 = some (none, .bipush 100, (0, 0, 0, 0, 0, .null)) := rfl
theorem s_M_init_131 {ls : am_L} {st : List Value} {σ : am_H} {Q : Option Value → am_H → Prop} : ax k_M_init 131 ls st σ Q = ax k_M_init 133 ls (.int 100 :: st) σ Q := ru_bipush f_M_init_131 (by decide +kernel) rfl
theorem f_M_init_133 : am_cd k_M_init 133 = some (none, .newarray .boolean, (0, 0, 1104, 0, 0, .null)) := rfl
theorem s_M_init_133 {ls : am_L} {st : List Value} {σ : am_H} {Q : Option Value → am_H → Prop} {n : Int32} : ax k_M_init 133 ls (.int n :: st) σ Q = (am_mk n σ ∧ ax k_M_init 135 ls (.ref σ.1 :: st) (am_new σ n.toNatClampNeg (am_ia 1 n.toNatClampNeg (fun _ => 0))) Q) := ru_newz f_M_init_133 rfl
theorem f_M_init_135 : am_cd k_M_init 135 = some (none, .putfield 57, (11, 22, 939, 0, 3, .null)) := rfl
theorem s_M_init_135 {ls : am_L} {st : List Value} {σ : am_H} {Q : Option Value → am_H → Prop} {a : Nat} {v : Value} : ax k_M_init 135 ls (v :: .ref a :: st) σ Q = ax_f (am_fld σ a 11 22) (fun _ => a < am_top ∧ am_okv 3 v = true ∧ ax k_M_init 138 ls st (am_put σ a 22 v) Q) := ru_putf f_M_init_135 rfl
theorem f_M_init_138 : am_cd k_M_init 138 = some (none, .aload_n 0, (0, 0, 0, 0, 0, .null)) := rfl
theorem s_M_init_138 {st : List Value} {σ : am_H} {Q : Option Value → am_H → Prop} {x : Nat} : ax k_M_init 138 [some (.ref x)] st σ Q = ax k_M_init 139 [some (.ref x)] (.ref x :: st) σ Q := ru_loc (q := (_, _)) f_M_init_138 rfl rfl rfl
theorem f_M_init_139 : am_cd k_M_init 139 = some (none, .bipush 100, (0, 0, 0, 0, 0, .null)) := rfl
theorem s_M_init_139 {ls : am_L} {st : List Value} {σ : am_H} {Q : Option Value → am_H → Prop} : ax k_M_init 139 ls st σ Q = ax k_M_init 141 ls (.int 100 :: st) σ Q := ru_bipush f_M_init_139 (by decide +kernel) rfl
theorem f_M_init_141 : am_cd k_M_init 141 = some (none, .newarray .int, (0, 0, 108, 0, 0, .null)) := rfl
theorem s_M_init_141 {ls : am_L} {st : List Value} {σ : am_H} {Q : Option Value → am_H → Prop} {n : Int32} : ax k_M_init 141 ls (.int n :: st) σ Q = (am_mk n σ ∧ ax k_M_init 143 ls (.ref σ.1 :: st) (am_new σ n.toNatClampNeg (am_ia 0 n.toNatClampNeg (fun _ => 0))) Q) := ru_newi f_M_init_141 rfl
theorem f_M_init_143 : am_cd k_M_init 143 = some (none, .putfield 60, (11, 24, 941, 0, 3, .null)) := rfl
theorem s_M_init_143 {ls : am_L} {st : List Value} {σ : am_H} {Q : Option Value → am_H → Prop} {a : Nat} {v : Value} : ax k_M_init 143 ls (v :: .ref a :: st) σ Q = ax_f (am_fld σ a 11 24) (fun _ => a < am_top ∧ am_okv 3 v = true ∧ ax k_M_init 146 ls st (am_put σ a 24 v) Q) := ru_putf f_M_init_143 rfl
theorem f_M_init_146 : am_cd k_M_init 146 = some (none, .aload_n 0, (0, 0, 0, 0, 0, .null)) := rfl
theorem s_M_init_146 {st : List Value} {σ : am_H} {Q : Option Value → am_H → Prop} {x : Nat} : ax k_M_init 146 [some (.ref x)] st σ Q = ax k_M_init 147 [some (.ref x)] (.ref x :: st) σ Q := ru_loc (q := (_, _)) f_M_init_146 rfl rfl rfl
theorem f_M_init_147 : am_cd k_M_init 147 = some (none, .bipush 100, (0, 0, 0, 0, 0, .null)) := rfl
theorem s_M_init_147 {ls : am_L} {st : List Value} {σ : am_H} {Q : Option Value → am_H → Prop} : ax k_M_init 147 ls st σ Q = ax k_M_init 149 ls (.int 100 :: st) σ Q := ru_bipush f_M_init_147 (by decide +kernel) rfl
theorem f_M_init_149 : am_cd k_M_init 149 = some (none, .newarray .int, (0, 0, 108, 0, 0, .null)) := rfl
theorem s_M_init_149 {ls : am_L} {st : List Value} {σ : am_H} {Q : Option Value → am_H → Prop} {n : Int32} : ax k_M_init 149 ls (.int n :: st) σ Q = (am_mk n σ ∧ ax k_M_init 151 ls (.ref σ.1 :: st) (am_new σ n.toNatClampNeg (am_ia 0 n.toNatClampNeg (fun _ => 0))) Q) := ru_newi f_M_init_149 rfl
theorem f_M_init_151 : am_cd k_M_init 151 = some (none, .putfield 63, (11, 25, 942, 0, 3, .null)) := rfl
theorem s_M_init_151 {ls : am_L} {st : List Value} {σ : am_H} {Q : Option Value → am_H → Prop} {a : Nat} {v : Value} : ax k_M_init 151 ls (v :: .ref a :: st) σ Q = ax_f (am_fld σ a 11 25) (fun _ => a < am_top ∧ am_okv 3 v = true ∧ ax k_M_init 154 ls st (am_put σ a 25 v) Q) := ru_putf f_M_init_151 rfl
theorem f_M_init_154 : am_cd k_M_init 154 = some (none, .aload_n 0, (0, 0, 0, 0, 0, .null)) := rfl
theorem s_M_init_154 {st : List Value} {σ : am_H} {Q : Option Value → am_H → Prop} {x : Nat} : ax k_M_init 154 [some (.ref x)] st σ Q = ax k_M_init 155 [some (.ref x)] (.ref x :: st) σ Q := ru_loc (q := (_, _)) f_M_init_154 rfl rfl rfl
theorem f_M_init_155 : am_cd k_M_init 155 = some (none, .bipush 100, (0, 0, 0, 0, 0, .null)) := rfl
theorem s_M_init_155 {ls : am_L} {st : List Value} {σ : am_H} {Q : Option Value → am_H → Prop} : ax k_M_init 155 ls st σ Q = ax k_M_init 157 ls (.int 100 :: st) σ Q := ru_bipush f_M_init_155 (by decide +kernel) rfl
theorem f_M_init_157 : am_cd k_M_init 157 = some (none, .newarray .int, (0, 0, 108, 0, 0, .null)) := rfl
theorem s_M_init_157 {ls : am_L} {st : List Value} {σ : am_H} {Q : Option Value → am_H → Prop} {n : Int32} : ax k_M_init 157 ls (.int n :: st) σ Q = (am_mk n σ ∧ ax k_M_init 159 ls (.ref σ.1 :: st) (am_new σ n.toNatClampNeg (am_ia 0 n.toNatClampNeg (fun _ => 0))) Q) := ru_newi f_M_init_157 rfl
theorem f_M_init_159 : am_cd k_M_init 159 = some (none, .putfield 66, (11, 26, 943, 0, 3, .null)) := rfl
theorem s_M_init_159 {ls : am_L} {st : List Value} {σ : am_H} {Q : Option Value → am_H → Prop} {a : Nat} {v : Value} : ax k_M_init 159 ls (v :: .ref a :: st) σ Q = ax_f (am_fld σ a 11 26) (fun _ => a < am_top ∧ am_okv 3 v = true ∧ ax k_M_init 162 ls st (am_put σ a 26 v) Q) := ru_putf f_M_init_159 rfl
theorem f_M_init_162 : am_cd k_M_init 162 = some (none, .aload_n 0, (0, 0, 0, 0, 0, .null)) := rfl
theorem s_M_init_162 {st : List Value} {σ : am_H} {Q : Option Value → am_H → Prop} {x : Nat} : ax k_M_init 162 [some (.ref x)] st σ Q = ax k_M_init 163 [some (.ref x)] (.ref x :: st) σ Q := ru_loc (q := (_, _)) f_M_init_162 rfl rfl rfl
theorem f_M_init_163 : am_cd k_M_init 163 = some (none, .bipush 40, (0, 0, 0, 0, 0, .null)) := rfl
theorem s_M_init_163 {ls : am_L} {st : List Value} {σ : am_H} {Q : Option Value → am_H → Prop} : ax k_M_init 163 ls st σ Q = ax k_M_init 165 ls (.int 40 :: st) σ Q := ru_bipush f_M_init_163 (by decide +kernel) rfl
theorem f_M_init_165 : am_cd k_M_init 165 = some (none, .newarray .boolean, (0, 0, 1104, 0, 0, .null)) := rfl
theorem s_M_init_165 {ls : am_L} {st : List Value} {σ : am_H} {Q : Option Value → am_H → Prop} {n : Int32} : ax k_M_init 165 ls (.int n :: st) σ Q = (am_mk n σ ∧ ax k_M_init 167 ls (.ref σ.1 :: st) (am_new σ n.toNatClampNeg (am_ia 1 n.toNatClampNeg (fun _ => 0))) Q) := ru_newz f_M_init_165 rfl
theorem f_M_init_167 : am_cd k_M_init 167 = some (none, .putfield 69, (11, 27, 944, 0, 3, .null)) := rfl
theorem s_M_init_167 {ls : am_L} {st : List Value} {σ : am_H} {Q : Option Value → am_H → Prop} {a : Nat} {v : Value} : ax k_M_init 167 ls (v :: .ref a :: st) σ Q = ax_f (am_fld σ a 11 27) (fun _ => a < am_top ∧ am_okv 3 v = true ∧ ax k_M_init 170 ls st (am_put σ a 27 v) Q) := ru_putf f_M_init_167 rfl
theorem f_M_init_170 : am_cd k_M_init 170 = some (none, .aload_n 0, (0, 0, 0, 0, 0, .null)) := rfl
theorem s_M_init_170 {st : List Value} {σ : am_H} {Q : Option Value → am_H → Prop} {x : Nat} : ax k_M_init 170 [some (.ref x)] st σ Q = ax k_M_init 171 [some (.ref x)] (.ref x :: st) σ Q := ru_loc (q := (_, _)) f_M_init_170 rfl rfl rfl
theorem f_M_init_171 : am_cd k_M_init 171 = some (none, .bipush 120, (0, 0, 0, 0, 0, .null)) := rfl
theorem s_M_init_171 {ls : am_L} {st : List Value} {σ : am_H} {Q : Option Value → am_H → Prop} : ax k_M_init 171 ls st σ Q = ax k_M_init 173 ls (.int 120 :: st) σ Q := ru_bipush f_M_init_171 (by decide +kernel) rfl
theorem f_M_init_173 : am_cd k_M_init 173 = some (none, .newarray .int, (0, 0, 108, 0, 0, .null)) := rfl
theorem s_M_init_173 {ls : am_L} {st : List Value} {σ : am_H} {Q : Option Value → am_H → Prop} {n : Int32} : ax k_M_init 173 ls (.int n :: st) σ Q = (am_mk n σ ∧ ax k_M_init 175 ls (.ref σ.1 :: st) (am_new σ n.toNatClampNeg (am_ia 0 n.toNatClampNeg (fun _ => 0))) Q) := ru_newi f_M_init_173 rfl
theorem f_M_init_175 : am_cd k_M_init 175 = some (none, .putfield 72, (11, 28, 945, 0, 3, .null)) := rfl
theorem s_M_init_175 {ls : am_L} {st : List Value} {σ : am_H} {Q : Option Value → am_H → Prop} {a : Nat} {v : Value} : ax k_M_init 175 ls (v :: .ref a :: st) σ Q = ax_f (am_fld σ a 11 28) (fun _ => a < am_top ∧ am_okv 3 v = true ∧ ax k_M_init 178 ls st (am_put σ a 28 v) Q) := ru_putf f_M_init_175 rfl
theorem f_M_init_178 : am_cd k_M_init 178 = some (none, .aload_n 0, (0, 0, 0, 0, 0, .null)) := rfl
theorem s_M_init_178 {st : List Value} {σ : am_H} {Q : Option Value → am_H → Prop} {x : Nat} : ax k_M_init 178 [some (.ref x)] st σ Q = ax k_M_init 179 [some (.ref x)] (.ref x :: st) σ Q := ru_loc (q := (_, _)) f_M_init_178 rfl rfl rfl
theorem f_M_init_179 : am_cd k_M_init 179 = some (none, .bipush 40, (0, 0, 0, 0, 0, .null)) := rfl
theorem s_M_init_179 {ls : am_L} {st : List Value} {σ : am_H} {Q : Option Value → am_H → Prop} : ax k_M_init 179 ls st σ Q = ax k_M_init 181 ls (.int 40 :: st) σ Q := ru_bipush f_M_init_179 (by decide +kernel) rfl
theorem f_M_init_181 : am_cd k_M_init 181 = some (none, .newarray .int, (0, 0, 108, 0, 0, .null)) := rfl
theorem s_M_init_181 {ls : am_L} {st : List Value} {σ : am_H} {Q : Option Value → am_H → Prop} {n : Int32} : ax k_M_init 181 ls (.int n :: st) σ Q = (am_mk n σ ∧ ax k_M_init 183 ls (.ref σ.1 :: st) (am_new σ n.toNatClampNeg (am_ia 0 n.toNatClampNeg (fun _ => 0))) Q) := ru_newi f_M_init_181 rfl
theorem f_M_init_183 : am_cd k_M_init 183 = some (none, .putfield 75, (11, 30, 947, 0, 3, .null)) := rfl
theorem s_M_init_183 {ls : am_L} {st : List Value} {σ : am_H} {Q : Option Value → am_H → Prop} {a : Nat} {v : Value} : ax k_M_init 183 ls (v :: .ref a :: st) σ Q = ax_f (am_fld σ a 11 30) (fun _ => a < am_top ∧ am_okv 3 v = true ∧ ax k_M_init 186 ls st (am_put σ a 30 v) Q) := ru_putf f_M_init_183 rfl
theorem f_M_init_186 : am_cd k_M_init 186 = some (none, .aload_n 0, (0, 0, 0, 0, 0, .null)) := rfl
theorem s_M_init_186 {st : List Value} {σ : am_H} {Q : Option Value → am_H → Prop} {x : Nat} : ax k_M_init 186 [some (.ref x)] st σ Q = ax k_M_init 187 [some (.ref x)] (.ref x :: st) σ Q := ru_loc (q := (_, _)) f_M_init_186 rfl rfl rfl
theorem f_M_init_187 : am_cd k_M_init 187 = some (none, .bipush 121, (0, 0, 0, 0, 0, .null)) := rfl
theorem s_M_init_187 {ls : am_L} {st : List Value} {σ : am_H} {Q : Option Value → am_H → Prop} : ax k_M_init 187 ls st σ Q = ax k_M_init 189 ls (.int 121 :: st) σ Q := ru_bipush f_M_init_187 (by decide +kernel) rfl
theorem f_M_init_189 : am_cd k_M_init 189 = some (none, .newarray .int, (0, 0, 108, 0, 0, .null)) := rfl
theorem s_M_init_189 {ls : am_L} {st : List Value} {σ : am_H} {Q : Option Value → am_H → Prop} {n : Int32} : ax k_M_init 189 ls (.int n :: st) σ Q = (am_mk n σ ∧ ax k_M_init 191 ls (.ref σ.1 :: st) (am_new σ n.toNatClampNeg (am_ia 0 n.toNatClampNeg (fun _ => 0))) Q) := ru_newi f_M_init_189 rfl
theorem f_M_init_191 : am_cd k_M_init 191 = some (none, .putfield 78, (11, 31, 948, 0, 3, .null)) := rfl
theorem s_M_init_191 {ls : am_L} {st : List Value} {σ : am_H} {Q : Option Value → am_H → Prop} {a : Nat} {v : Value} : ax k_M_init 191 ls (v :: .ref a :: st) σ Q = ax_f (am_fld σ a 11 31) (fun _ => a < am_top ∧ am_okv 3 v = true ∧ ax k_M_init 194 ls st (am_put σ a 31 v) Q) := ru_putf f_M_init_191 rfl
theorem f_M_init_194 : am_cd k_M_init 194 = some (none, .aload_n 0, (0, 0, 0, 0, 0, .null)) := rfl
theorem s_M_init_194 {st : List Value} {σ : am_H} {Q : Option Value → am_H → Prop} {x : Nat} : ax k_M_init 194 [some (.ref x)] st σ Q = ax k_M_init 195 [some (.ref x)] (.ref x :: st) σ Q := ru_loc (q := (_, _)) f_M_init_194 rfl rfl rfl
theorem f_M_init_195 : am_cd k_M_init 195 = some (none, .bipush 121, (0, 0, 0, 0, 0, .null)) := rfl
theorem s_M_init_195 {ls : am_L} {st : List Value} {σ : am_H} {Q : Option Value → am_H → Prop} : ax k_M_init 195 ls st σ Q = ax k_M_init 197 ls (.int 121 :: st) σ Q := ru_bipush f_M_init_195 (by decide +kernel) rfl
theorem f_M_init_197 : am_cd k_M_init 197 = some (none, .newarray .int, (0, 0, 108, 0, 0, .null)) := rfl
theorem s_M_init_197 {ls : am_L} {st : List Value} {σ : am_H} {Q : Option Value → am_H → Prop} {n : Int32} : ax k_M_init 197 ls (.int n :: st) σ Q = (am_mk n σ ∧ ax k_M_init 199 ls (.ref σ.1 :: st) (am_new σ n.toNatClampNeg (am_ia 0 n.toNatClampNeg (fun _ => 0))) Q) := ru_newi f_M_init_197 rfl
theorem f_M_init_199 : am_cd k_M_init 199 = some (none, .putfield 81, (11, 32, 949, 0, 3, .null)) := rfl
theorem s_M_init_199 {ls : am_L} {st : List Value} {σ : am_H} {Q : Option Value → am_H → Prop} {a : Nat} {v : Value} : ax k_M_init 199 ls (v :: .ref a :: st) σ Q = ax_f (am_fld σ a 11 32) (fun _ => a < am_top ∧ am_okv 3 v = true ∧ ax k_M_init 202 ls st (am_put σ a 32 v) Q) := ru_putf f_M_init_199 rfl
theorem f_M_init_202 : am_cd k_M_init 202 = some (none, .aload_n 0, (0, 0, 0, 0, 0, .null)) := rfl
theorem s_M_init_202 {st : List Value} {σ : am_H} {Q : Option Value → am_H → Prop} {x : Nat} : ax k_M_init 202 [some (.ref x)] st σ Q = ax k_M_init 203 [some (.ref x)] (.ref x :: st) σ Q := ru_loc (q := (_, _)) f_M_init_202 rfl rfl rfl
theorem f_M_init_203 : am_cd k_M_init 203 = some (none, .bipush 121, (0, 0, 0, 0, 0, .null)) := rfl
theorem s_M_init_203 {ls : am_L} {st : List Value} {σ : am_H} {Q : Option Value → am_H → Prop} : ax k_M_init 203 ls st σ Q = ax k_M_init 205 ls (.int 121 :: st) σ Q := ru_bipush f_M_init_203 (by decide +kernel) rfl
theorem f_M_init_205 : am_cd k_M_init 205 = some (none, .newarray .int, (0, 0, 108, 0, 0, .null)) := rfl
theorem s_M_init_205 {ls : am_L} {st : List Value} {σ : am_H} {Q : Option Value → am_H → Prop} {n : Int32} : ax k_M_init 205 ls (.int n :: st) σ Q = (am_mk n σ ∧ ax k_M_init 207 ls (.ref σ.1 :: st) (am_new σ n.toNatClampNeg (am_ia 0 n.toNatClampNeg (fun _ => 0))) Q) := ru_newi f_M_init_205 rfl
theorem f_M_init_207 : am_cd k_M_init 207 = some (none, .putfield 84, (11, 33, 950, 0, 3, .null)) := rfl
theorem s_M_init_207 {ls : am_L} {st : List Value} {σ : am_H} {Q : Option Value → am_H → Prop} {a : Nat} {v : Value} : ax k_M_init 207 ls (v :: .ref a :: st) σ Q = ax_f (am_fld σ a 11 33) (fun _ => a < am_top ∧ am_okv 3 v = true ∧ ax k_M_init 210 ls st (am_put σ a 33 v) Q) := ru_putf f_M_init_207 rfl
theorem f_M_init_210 : am_cd k_M_init 210 = some (none, .aload_n 0, (0, 0, 0, 0, 0, .null)) := rfl
theorem s_M_init_210 {st : List Value} {σ : am_H} {Q : Option Value → am_H → Prop} {x : Nat} : ax k_M_init 210 [some (.ref x)] st σ Q = ax k_M_init 211 [some (.ref x)] (.ref x :: st) σ Q := ru_loc (q := (_, _)) f_M_init_210 rfl rfl rfl
theorem f_M_init_211 : am_cd k_M_init 211 = some (none, .bipush 121, (0, 0, 0, 0, 0, .null)) := rfl
theorem s_M_init_211 {ls : am_L} {st : List Value} {σ : am_H} {Q : Option Value → am_H → Prop} : ax k_M_init 211 ls st σ Q = ax k_M_init 213 ls (.int 121 :: st) σ Q := ru_bipush f_M_init_211 (by decide +kernel) rfl
theorem f_M_init_213 : am_cd k_M_init 213 = some (none, .newarray .int, (0, 0, 108, 0, 0, .null)) := rfl
theorem s_M_init_213 {ls : am_L} {st : List Value} {σ : am_H} {Q : Option Value → am_H → Prop} {n : Int32} : ax k_M_init 213 ls (.int n :: st) σ Q = (am_mk n σ ∧ ax k_M_init 215 ls (.ref σ.1 :: st) (am_new σ n.toNatClampNeg (am_ia 0 n.toNatClampNeg (fun _ => 0))) Q) := ru_newi f_M_init_213 rfl
theorem f_M_init_215 : am_cd k_M_init 215 = some (none, .putfield 87, (11, 34, 951, 0, 3, .null)) := rfl
theorem s_M_init_215 {ls : am_L} {st : List Value} {σ : am_H} {Q : Option Value → am_H → Prop} {a : Nat} {v : Value} : ax k_M_init 215 ls (v :: .ref a :: st) σ Q = ax_f (am_fld σ a 11 34) (fun _ => a < am_top ∧ am_okv 3 v = true ∧ ax k_M_init 218 ls st (am_put σ a 34 v) Q) := ru_putf f_M_init_215 rfl
theorem f_M_init_218 : am_cd k_M_init 218 = some (none, .aload_n 0, (0, 0, 0, 0, 0, .null)) := rfl
theorem s_M_init_218 {st : List Value} {σ : am_H} {Q : Option Value → am_H → Prop} {x : Nat} : ax k_M_init 218 [some (.ref x)] st σ Q = ax k_M_init 219 [some (.ref x)] (.ref x :: st) σ Q := ru_loc (q := (_, _)) f_M_init_218 rfl rfl rfl
theorem f_M_init_219 : am_cd k_M_init 219 = some (none, .bipush 121, (0, 0, 0, 0, 0, .null)) := rfl
theorem s_M_init_219 {ls : am_L} {st : List Value} {σ : am_H} {Q : Option Value → am_H → Prop} : ax k_M_init 219 ls st σ Q = ax k_M_init 221 ls (.int 121 :: st) σ Q := ru_bipush f_M_init_219 (by decide +kernel) rfl
theorem f_M_init_221 : am_cd k_M_init 221 = some (none, .newarray .int, (0, 0, 108, 0, 0, .null)) := rfl
theorem s_M_init_221 {ls : am_L} {st : List Value} {σ : am_H} {Q : Option Value → am_H → Prop} {n : Int32} : ax k_M_init 221 ls (.int n :: st) σ Q = (am_mk n σ ∧ ax k_M_init 223 ls (.ref σ.1 :: st) (am_new σ n.toNatClampNeg (am_ia 0 n.toNatClampNeg (fun _ => 0))) Q) := ru_newi f_M_init_221 rfl
theorem f_M_init_223 : am_cd k_M_init 223 = some (none, .putfield 90, (11, 35, 952, 0, 3, .null)) := rfl
theorem s_M_init_223 {ls : am_L} {st : List Value} {σ : am_H} {Q : Option Value → am_H → Prop} {a : Nat} {v : Value} : ax k_M_init 223 ls (v :: .ref a :: st) σ Q = ax_f (am_fld σ a 11 35) (fun _ => a < am_top ∧ am_okv 3 v = true ∧ ax k_M_init 226 ls st (am_put σ a 35 v) Q) := ru_putf f_M_init_223 rfl
theorem f_M_init_226 : am_cd k_M_init 226 = some (none, .aload_n 0, (0, 0, 0, 0, 0, .null)) := rfl
theorem s_M_init_226 {st : List Value} {σ : am_H} {Q : Option Value → am_H → Prop} {x : Nat} : ax k_M_init 226 [some (.ref x)] st σ Q = ax k_M_init 227 [some (.ref x)] (.ref x :: st) σ Q := ru_loc (q := (_, _)) f_M_init_226 rfl rfl rfl
theorem f_M_init_227 : am_cd k_M_init 227 = some (none, .bipush 121, (0, 0, 0, 0, 0, .null)) := rfl
theorem s_M_init_227 {ls : am_L} {st : List Value} {σ : am_H} {Q : Option Value → am_H → Prop} : ax k_M_init 227 ls st σ Q = ax k_M_init 229 ls (.int 121 :: st) σ Q := ru_bipush f_M_init_227 (by decide +kernel) rfl
theorem f_M_init_229 : am_cd k_M_init 229 = some (none, .newarray .int, (0, 0, 108, 0, 0, .null)) := rfl
theorem s_M_init_229 {ls : am_L} {st : List Value} {σ : am_H} {Q : Option Value → am_H → Prop} {n : Int32} : ax k_M_init 229 ls (.int n :: st) σ Q = (am_mk n σ ∧ ax k_M_init 231 ls (.ref σ.1 :: st) (am_new σ n.toNatClampNeg (am_ia 0 n.toNatClampNeg (fun _ => 0))) Q) := ru_newi f_M_init_229 rfl
theorem f_M_init_231 : am_cd k_M_init 231 = some (none, .putfield 93, (11, 36, 953, 0, 3, .null)) := rfl
theorem s_M_init_231 {ls : am_L} {st : List Value} {σ : am_H} {Q : Option Value → am_H → Prop} {a : Nat} {v : Value} : ax k_M_init 231 ls (v :: .ref a :: st) σ Q = ax_f (am_fld σ a 11 36) (fun _ => a < am_top ∧ am_okv 3 v = true ∧ ax k_M_init 234 ls st (am_put σ a 36 v) Q) := ru_putf f_M_init_231 rfl
theorem f_M_init_234 : am_cd k_M_init 234 = some (none, .aload_n 0, (0, 0, 0, 0, 0, .null)) := rfl
theorem s_M_init_234 {st : List Value} {σ : am_H} {Q : Option Value → am_H → Prop} {x : Nat} : ax k_M_init 234 [some (.ref x)] st σ Q = ax k_M_init 235 [some (.ref x)] (.ref x :: st) σ Q := ru_loc (q := (_, _)) f_M_init_234 rfl rfl rfl
theorem f_M_init_235 : am_cd k_M_init 235 = some (none, .bipush 121, (0, 0, 0, 0, 0, .null)) := rfl
theorem s_M_init_235 {ls : am_L} {st : List Value} {σ : am_H} {Q : Option Value → am_H → Prop} : ax k_M_init 235 ls st σ Q = ax k_M_init 237 ls (.int 121 :: st) σ Q := ru_bipush f_M_init_235 (by decide +kernel) rfl
theorem f_M_init_237 : am_cd k_M_init 237 = some (none, .newarray .long, (0, 0, 159, 0, 0, .null)) := rfl
theorem s_M_init_237 {ls : am_L} {st : List Value} {σ : am_H} {Q : Option Value → am_H → Prop} {n : Int32} : ax k_M_init 237 ls (.int n :: st) σ Q = (am_mk n σ ∧ ax k_M_init 239 ls (.ref σ.1 :: st) (am_new σ n.toNatClampNeg (am_la n.toNatClampNeg (fun _ => 0))) Q) := ru_newl f_M_init_237 rfl
theorem f_M_init_239 : am_cd k_M_init 239 = some (none, .putfield 96, (11, 37, 954, 0, 3, .null)) := rfl
theorem s_M_init_239 {ls : am_L} {st : List Value} {σ : am_H} {Q : Option Value → am_H → Prop} {a : Nat} {v : Value} : ax k_M_init 239 ls (v :: .ref a :: st) σ Q = ax_f (am_fld σ a 11 37) (fun _ => a < am_top ∧ am_okv 3 v = true ∧ ax k_M_init 242 ls st (am_put σ a 37 v) Q) := ru_putf f_M_init_239 rfl
theorem f_M_init_242 : am_cd k_M_init 242 = some (none, .aload_n 0, (0, 0, 0, 0, 0, .null)) := rfl
theorem s_M_init_242 {st : List Value} {σ : am_H} {Q : Option Value → am_H → Prop} {x : Nat} : ax k_M_init 242 [some (.ref x)] st σ Q = ax k_M_init 243 [some (.ref x)] (.ref x :: st) σ Q := ru_loc (q := (_, _)) f_M_init_242 rfl rfl rfl
theorem f_M_init_243 : am_cd k_M_init 243 = some (none, .iconst (-1), (0, 0, 0, 0, 0, .null)) := rfl
theorem s_M_init_243 {ls : am_L} {st : List Value} {σ : am_H} {Q : Option Value → am_H → Prop} : ax k_M_init 243 ls st σ Q = ax k_M_init 244 ls (.int (-1) :: st) σ Q := ru_iconst f_M_init_243 (by decide +kernel) rfl
theorem f_M_init_244 : am_cd k_M_init 244 = some (none, .putfield 100, (11, 38, 955, 0, 0, .null)) := rfl
theorem s_M_init_244 {ls : am_L} {st : List Value} {σ : am_H} {Q : Option Value → am_H → Prop} {a : Nat} {v : Value} : ax k_M_init 244 ls (v :: .ref a :: st) σ Q = ax_f (am_fld σ a 11 38) (fun _ => a < am_top ∧ am_okv 0 v = true ∧ ax k_M_init 247 ls st (am_put σ a 38 v) Q) := ru_putf f_M_init_244 rfl
theorem f_M_init_247 : am_cd k_M_init 247 = some (none, .aload_n 0, (0, 0, 0, 0, 0, .null)) := rfl
theorem s_M_init_247 {st : List Value} {σ : am_H} {Q : Option Value → am_H → Prop} {x : Nat} : ax k_M_init 247 [some (.ref x)] st σ Q = ax k_M_init 248 [some (.ref x)] (.ref x :: st) σ Q := ru_loc (q := (_, _)) f_M_init_247 rfl rfl rfl
theorem f_M_init_248 : am_cd k_M_init 248 = some (none, .iconst (-1), (0, 0, 0, 0, 0, .null)) := rfl
theorem s_M_init_248 {ls : am_L} {st : List Value} {σ : am_H} {Q : Option Value → am_H → Prop} : ax k_M_init 248 ls st σ Q = ax k_M_init 249 ls (.int (-1) :: st) σ Q := ru_iconst f_M_init_248 (by decide +kernel) rfl
theorem f_M_init_249 : am_cd k_M_init 249 = some (none, .putfield 103, (11, 39, 956, 0, 0, .null)) := rfl
theorem s_M_init_249 {ls : am_L} {st : List Value} {σ : am_H} {Q : Option Value → am_H → Prop} {a : Nat} {v : Value} : ax k_M_init 249 ls (v :: .ref a :: st) σ Q = ax_f (am_fld σ a 11 39) (fun _ => a < am_top ∧ am_okv 0 v = true ∧ ax k_M_init 252 ls st (am_put σ a 39 v) Q) := ru_putf f_M_init_249 rfl
theorem f_M_init_252 : am_cd k_M_init 252 = some (none, .aload_n 0, (0, 0, 0, 0, 0, .null)) := rfl
theorem s_M_init_252 {st : List Value} {σ : am_H} {Q : Option Value → am_H → Prop} {x : Nat} : ax k_M_init 252 [some (.ref x)] st σ Q = ax k_M_init 253 [some (.ref x)] (.ref x :: st) σ Q := ru_loc (q := (_, _)) f_M_init_252 rfl rfl rfl
theorem f_M_init_253 : am_cd k_M_init 253 = some (none, .bipush 60, (0, 0, 0, 0, 0, .null)) := rfl
theorem s_M_init_253 {ls : am_L} {st : List Value} {σ : am_H} {Q : Option Value → am_H → Prop} : ax k_M_init 253 ls st σ Q = ax k_M_init 255 ls (.int 60 :: st) σ Q := ru_bipush f_M_init_253 (by decide +kernel) rfl
theorem f_M_init_255 : am_cd k_M_init 255 = some (none, .newarray .int, (0, 0, 108, 0, 0, .null)) := rfl
theorem s_M_init_255 {ls : am_L} {st : List Value} {σ : am_H} {Q : Option Value → am_H → Prop} {n : Int32} : ax k_M_init 255 ls (.int n :: st) σ Q = (am_mk n σ ∧ ax k_M_init 257 ls (.ref σ.1 :: st) (am_new σ n.toNatClampNeg (am_ia 0 n.toNatClampNeg (fun _ => 0))) Q) := ru_newi f_M_init_255 rfl
theorem f_M_init_257 : am_cd k_M_init 257 = some (none, .putfield 106, (11, 46, 963, 0, 3, .null)) := rfl
theorem s_M_init_257 {ls : am_L} {st : List Value} {σ : am_H} {Q : Option Value → am_H → Prop} {a : Nat} {v : Value} : ax k_M_init 257 ls (v :: .ref a :: st) σ Q = ax_f (am_fld σ a 11 46) (fun _ => a < am_top ∧ am_okv 3 v = true ∧ ax k_M_init 260 ls st (am_put σ a 46 v) Q) := ru_putf f_M_init_257 rfl
theorem f_M_init_260 : am_cd k_M_init 260 = some (none, .aload_n 0, (0, 0, 0, 0, 0, .null)) := rfl
theorem s_M_init_260 {st : List Value} {σ : am_H} {Q : Option Value → am_H → Prop} {x : Nat} : ax k_M_init 260 [some (.ref x)] st σ Q = ax k_M_init 261 [some (.ref x)] (.ref x :: st) σ Q := ru_loc (q := (_, _)) f_M_init_260 rfl rfl rfl
theorem f_M_init_261 : am_cd k_M_init 261 = some (none, .bipush 60, (0, 0, 0, 0, 0, .null)) := rfl
theorem s_M_init_261 {ls : am_L} {st : List Value} {σ : am_H} {Q : Option Value → am_H → Prop} : ax k_M_init 261 ls st σ Q = ax k_M_init 263 ls (.int 60 :: st) σ Q := ru_bipush f_M_init_261 (by decide +kernel) rfl
theorem f_M_init_263 : am_cd k_M_init 263 = some (none, .newarray .int, (0, 0, 108, 0, 0, .null)) := rfl
theorem s_M_init_263 {ls : am_L} {st : List Value} {σ : am_H} {Q : Option Value → am_H → Prop} {n : Int32} : ax k_M_init 263 ls (.int n :: st) σ Q = (am_mk n σ ∧ ax k_M_init 265 ls (.ref σ.1 :: st) (am_new σ n.toNatClampNeg (am_ia 0 n.toNatClampNeg (fun _ => 0))) Q) := ru_newi f_M_init_263 rfl
theorem f_M_init_265 : am_cd k_M_init 265 = some (none, .putfield 109, (11, 47, 964, 0, 3, .null)) := rfl
theorem s_M_init_265 {ls : am_L} {st : List Value} {σ : am_H} {Q : Option Value → am_H → Prop} {a : Nat} {v : Value} : ax k_M_init 265 ls (v :: .ref a :: st) σ Q = ax_f (am_fld σ a 11 47) (fun _ => a < am_top ∧ am_okv 3 v = true ∧ ax k_M_init 268 ls st (am_put σ a 47 v) Q) := ru_putf f_M_init_265 rfl
theorem f_M_init_268 : am_cd k_M_init 268 = some (none, .aload_n 0, (0, 0, 0, 0, 0, .null)) := rfl
theorem s_M_init_268 {st : List Value} {σ : am_H} {Q : Option Value → am_H → Prop} {x : Nat} : ax k_M_init 268 [some (.ref x)] st σ Q = ax k_M_init 269 [some (.ref x)] (.ref x :: st) σ Q := ru_loc (q := (_, _)) f_M_init_268 rfl rfl rfl
theorem f_M_init_269 : am_cd k_M_init 269 = some (none, .bipush 60, (0, 0, 0, 0, 0, .null)) := rfl
theorem s_M_init_269 {ls : am_L} {st : List Value} {σ : am_H} {Q : Option Value → am_H → Prop} : ax k_M_init 269 ls st σ Q = ax k_M_init 271 ls (.int 60 :: st) σ Q := ru_bipush f_M_init_269 (by decide +kernel) rfl
theorem f_M_init_271 : am_cd k_M_init 271 = some (none, .newarray .int, (0, 0, 108, 0, 0, .null)) := rfl
theorem s_M_init_271 {ls : am_L} {st : List Value} {σ : am_H} {Q : Option Value → am_H → Prop} {n : Int32} : ax k_M_init 271 ls (.int n :: st) σ Q = (am_mk n σ ∧ ax k_M_init 273 ls (.ref σ.1 :: st) (am_new σ n.toNatClampNeg (am_ia 0 n.toNatClampNeg (fun _ => 0))) Q) := ru_newi f_M_init_271 rfl
theorem f_M_init_273 : am_cd k_M_init 273 = some (none, .putfield 112, (11, 48, 965, 0, 3, .null)) := rfl
theorem s_M_init_273 {ls : am_L} {st : List Value} {σ : am_H} {Q : Option Value → am_H → Prop} {a : Nat} {v : Value} : ax k_M_init 273 ls (v :: .ref a :: st) σ Q = ax_f (am_fld σ a 11 48) (fun _ => a < am_top ∧ am_okv 3 v = true ∧ ax k_M_init 276 ls st (am_put σ a 48 v) Q) := ru_putf f_M_init_273 rfl
theorem f_M_init_276 : am_cd k_M_init 276 = some (none, .aload_n 0, (0, 0, 0, 0, 0, .null)) := rfl
theorem s_M_init_276 {st : List Value} {σ : am_H} {Q : Option Value → am_H → Prop} {x : Nat} : ax k_M_init 276 [some (.ref x)] st σ Q = ax k_M_init 277 [some (.ref x)] (.ref x :: st) σ Q := ru_loc (q := (_, _)) f_M_init_276 rfl rfl rfl
theorem f_M_init_277 : am_cd k_M_init 277 = some (none, .bipush 60, (0, 0, 0, 0, 0, .null)) := rfl
theorem s_M_init_277 {ls : am_L} {st : List Value} {σ : am_H} {Q : Option Value → am_H → Prop} : ax k_M_init 277 ls st σ Q = ax k_M_init 279 ls (.int 60 :: st) σ Q := ru_bipush f_M_init_277 (by decide +kernel) rfl
theorem f_M_init_279 : am_cd k_M_init 279 = some (none, .newarray .int, (0, 0, 108, 0, 0, .null)) := rfl
theorem s_M_init_279 {ls : am_L} {st : List Value} {σ : am_H} {Q : Option Value → am_H → Prop} {n : Int32} : ax k_M_init 279 ls (.int n :: st) σ Q = (am_mk n σ ∧ ax k_M_init 281 ls (.ref σ.1 :: st) (am_new σ n.toNatClampNeg (am_ia 0 n.toNatClampNeg (fun _ => 0))) Q) := ru_newi f_M_init_279 rfl
theorem f_M_init_281 : am_cd k_M_init 281 = some (none, .putfield 115, (11, 49, 966, 0, 3, .null)) := rfl
theorem s_M_init_281 {ls : am_L} {st : List Value} {σ : am_H} {Q : Option Value → am_H → Prop} {a : Nat} {v : Value} : ax k_M_init 281 ls (v :: .ref a :: st) σ Q = ax_f (am_fld σ a 11 49) (fun _ => a < am_top ∧ am_okv 3 v = true ∧ ax k_M_init 284 ls st (am_put σ a 49 v) Q) := ru_putf f_M_init_281 rfl
theorem f_M_init_284 : am_cd k_M_init 284 = some (none, .aload_n 0, (0, 0, 0, 0, 0, .null)) := rfl
theorem s_M_init_284 {st : List Value} {σ : am_H} {Q : Option Value → am_H → Prop} {x : Nat} : ax k_M_init 284 [some (.ref x)] st σ Q = ax k_M_init 285 [some (.ref x)] (.ref x :: st) σ Q := ru_loc (q := (_, _)) f_M_init_284 rfl rfl rfl
theorem f_M_init_285 : am_cd k_M_init 285 = some (none, .bipush 60, (0, 0, 0, 0, 0, .null)) := rfl
theorem s_M_init_285 {ls : am_L} {st : List Value} {σ : am_H} {Q : Option Value → am_H → Prop} : ax k_M_init 285 ls st σ Q = ax k_M_init 287 ls (.int 60 :: st) σ Q := ru_bipush f_M_init_285 (by decide +kernel) rfl
theorem f_M_init_287 : am_cd k_M_init 287 = some (none, .newarray .int, (0, 0, 108, 0, 0, .null)) := rfl
theorem s_M_init_287 {ls : am_L} {st : List Value} {σ : am_H} {Q : Option Value → am_H → Prop} {n : Int32} : ax k_M_init 287 ls (.int n :: st) σ Q = (am_mk n σ ∧ ax k_M_init 289 ls (.ref σ.1 :: st) (am_new σ n.toNatClampNeg (am_ia 0 n.toNatClampNeg (fun _ => 0))) Q) := ru_newi f_M_init_287 rfl
theorem f_M_init_289 : am_cd k_M_init 289 = some (none, .putfield 118, (11, 50, 967, 0, 3, .null)) := rfl
theorem s_M_init_289 {ls : am_L} {st : List Value} {σ : am_H} {Q : Option Value → am_H → Prop} {a : Nat} {v : Value} : ax k_M_init 289 ls (v :: .ref a :: st) σ Q = ax_f (am_fld σ a 11 50) (fun _ => a < am_top ∧ am_okv 3 v = true ∧ ax k_M_init 292 ls st (am_put σ a 50 v) Q) := ru_putf f_M_init_289 rfl
theorem f_M_init_292 : am_cd k_M_init 292 = some (none, .aload_n 0, (0, 0, 0, 0, 0, .null)) := rfl
theorem s_M_init_292 {st : List Value} {σ : am_H} {Q : Option Value → am_H → Prop} {x : Nat} : ax k_M_init 292 [some (.ref x)] st σ Q = ax k_M_init 293 [some (.ref x)] (.ref x :: st) σ Q := ru_loc (q := (_, _)) f_M_init_292 rfl rfl rfl
theorem f_M_init_293 : am_cd k_M_init 293 = some (none, .bipush 60, (0, 0, 0, 0, 0, .null)) := rfl
theorem s_M_init_293 {ls : am_L} {st : List Value} {σ : am_H} {Q : Option Value → am_H → Prop} : ax k_M_init 293 ls st σ Q = ax k_M_init 295 ls (.int 60 :: st) σ Q := ru_bipush f_M_init_293 (by decide +kernel) rfl
theorem f_M_init_295 : am_cd k_M_init 295 = some (none, .newarray .int, (0, 0, 108, 0, 0, .null)) := rfl
theorem s_M_init_295 {ls : am_L} {st : List Value} {σ : am_H} {Q : Option Value → am_H → Prop} {n : Int32} : ax k_M_init 295 ls (.int n :: st) σ Q = (am_mk n σ ∧ ax k_M_init 297 ls (.ref σ.1 :: st) (am_new σ n.toNatClampNeg (am_ia 0 n.toNatClampNeg (fun _ => 0))) Q) := ru_newi f_M_init_295 rfl
theorem f_M_init_297 : am_cd k_M_init 297 = some (none, .putfield 121, (11, 51, 968, 0, 3, .null)) := rfl
theorem s_M_init_297 {ls : am_L} {st : List Value} {σ : am_H} {Q : Option Value → am_H → Prop} {a : Nat} {v : Value} : ax k_M_init 297 ls (v :: .ref a :: st) σ Q = ax_f (am_fld σ a 11 51) (fun _ => a < am_top ∧ am_okv 3 v = true ∧ ax k_M_init 300 ls st (am_put σ a 51 v) Q) := ru_putf f_M_init_297 rfl
theorem f_M_init_300 : am_cd k_M_init 300 = some (none, .aload_n 0, (0, 0, 0, 0, 0, .null)) := rfl
theorem s_M_init_300 {st : List Value} {σ : am_H} {Q : Option Value → am_H → Prop} {x : Nat} : ax k_M_init 300 [some (.ref x)] st σ Q = ax k_M_init 301 [some (.ref x)] (.ref x :: st) σ Q := ru_loc (q := (_, _)) f_M_init_300 rfl rfl rfl
theorem f_M_init_301 : am_cd k_M_init 301 = some (none, .bipush 60, (0, 0, 0, 0, 0, .null)) := rfl
theorem s_M_init_301 {ls : am_L} {st : List Value} {σ : am_H} {Q : Option Value → am_H → Prop} : ax k_M_init 301 ls st σ Q = ax k_M_init 303 ls (.int 60 :: st) σ Q := ru_bipush f_M_init_301 (by decide +kernel) rfl
theorem f_M_init_303 : am_cd k_M_init 303 = some (none, .newarray .int, (0, 0, 108, 0, 0, .null)) := rfl
theorem s_M_init_303 {ls : am_L} {st : List Value} {σ : am_H} {Q : Option Value → am_H → Prop} {n : Int32} : ax k_M_init 303 ls (.int n :: st) σ Q = (am_mk n σ ∧ ax k_M_init 305 ls (.ref σ.1 :: st) (am_new σ n.toNatClampNeg (am_ia 0 n.toNatClampNeg (fun _ => 0))) Q) := ru_newi f_M_init_303 rfl
theorem f_M_init_305 : am_cd k_M_init 305 = some (none, .putfield 124, (11, 52, 969, 0, 3, .null)) := rfl
theorem s_M_init_305 {ls : am_L} {st : List Value} {σ : am_H} {Q : Option Value → am_H → Prop} {a : Nat} {v : Value} : ax k_M_init 305 ls (v :: .ref a :: st) σ Q = ax_f (am_fld σ a 11 52) (fun _ => a < am_top ∧ am_okv 3 v = true ∧ ax k_M_init 308 ls st (am_put σ a 52 v) Q) := ru_putf f_M_init_305 rfl
theorem f_M_init_308 : am_cd k_M_init 308 = some (none, .aload_n 0, (0, 0, 0, 0, 0, .null)) := rfl
theorem s_M_init_308 {st : List Value} {σ : am_H} {Q : Option Value → am_H → Prop} {x : Nat} : ax k_M_init 308 [some (.ref x)] st σ Q = ax k_M_init 309 [some (.ref x)] (.ref x :: st) σ Q := ru_loc (q := (_, _)) f_M_init_308 rfl rfl rfl
theorem f_M_init_309 : am_cd k_M_init 309 = some (none, .bipush 60, (0, 0, 0, 0, 0, .null)) := rfl
theorem s_M_init_309 {ls : am_L} {st : List Value} {σ : am_H} {Q : Option Value → am_H → Prop} : ax k_M_init 309 ls st σ Q = ax k_M_init 311 ls (.int 60 :: st) σ Q := ru_bipush f_M_init_309 (by decide +kernel) rfl
theorem f_M_init_311 : am_cd k_M_init 311 = some (none, .newarray .int, (0, 0, 108, 0, 0, .null)) := rfl
theorem s_M_init_311 {ls : am_L} {st : List Value} {σ : am_H} {Q : Option Value → am_H → Prop} {n : Int32} : ax k_M_init 311 ls (.int n :: st) σ Q = (am_mk n σ ∧ ax k_M_init 313 ls (.ref σ.1 :: st) (am_new σ n.toNatClampNeg (am_ia 0 n.toNatClampNeg (fun _ => 0))) Q) := ru_newi f_M_init_311 rfl
theorem f_M_init_313 : am_cd k_M_init 313 = some (none, .putfield 127, (11, 53, 970, 0, 3, .null)) := rfl
theorem s_M_init_313 {ls : am_L} {st : List Value} {σ : am_H} {Q : Option Value → am_H → Prop} {a : Nat} {v : Value} : ax k_M_init 313 ls (v :: .ref a :: st) σ Q = ax_f (am_fld σ a 11 53) (fun _ => a < am_top ∧ am_okv 3 v = true ∧ ax k_M_init 316 ls st (am_put σ a 53 v) Q) := ru_putf f_M_init_313 rfl
theorem f_M_init_316 : am_cd k_M_init 316 = some (none, .aload_n 0, (0, 0, 0, 0, 0, .null)) := rfl
theorem s_M_init_316 {st : List Value} {σ : am_H} {Q : Option Value → am_H → Prop} {x : Nat} : ax k_M_init 316 [some (.ref x)] st σ Q = ax k_M_init 317 [some (.ref x)] (.ref x :: st) σ Q := ru_loc (q := (_, _)) f_M_init_316 rfl rfl rfl
theorem f_M_init_317 : am_cd k_M_init 317 = some (none, .bipush 60, (0, 0, 0, 0, 0, .null)) := rfl
theorem s_M_init_317 {ls : am_L} {st : List Value} {σ : am_H} {Q : Option Value → am_H → Prop} : ax k_M_init 317 ls st σ Q = ax k_M_init 319 ls (.int 60 :: st) σ Q := ru_bipush f_M_init_317 (by decide +kernel) rfl
theorem f_M_init_319 : am_cd k_M_init 319 = some (none, .newarray .int, (0, 0, 108, 0, 0, .null)) := rfl
theorem s_M_init_319 {ls : am_L} {st : List Value} {σ : am_H} {Q : Option Value → am_H → Prop} {n : Int32} : ax k_M_init 319 ls (.int n :: st) σ Q = (am_mk n σ ∧ ax k_M_init 321 ls (.ref σ.1 :: st) (am_new σ n.toNatClampNeg (am_ia 0 n.toNatClampNeg (fun _ => 0))) Q) := ru_newi f_M_init_319 rfl
theorem f_M_init_321 : am_cd k_M_init 321 = some (none, .putfield 130, (11, 54, 971, 0, 3, .null)) := rfl
theorem s_M_init_321 {ls : am_L} {st : List Value} {σ : am_H} {Q : Option Value → am_H → Prop} {a : Nat} {v : Value} : ax k_M_init 321 ls (v :: .ref a :: st) σ Q = ax_f (am_fld σ a 11 54) (fun _ => a < am_top ∧ am_okv 3 v = true ∧ ax k_M_init 324 ls st (am_put σ a 54 v) Q) := ru_putf f_M_init_321 rfl
theorem f_M_init_324 : am_cd k_M_init 324 = some (none, .aload_n 0, (0, 0, 0, 0, 0, .null)) := rfl
theorem s_M_init_324 {st : List Value} {σ : am_H} {Q : Option Value → am_H → Prop} {x : Nat} : ax k_M_init 324 [some (.ref x)] st σ Q = ax k_M_init 325 [some (.ref x)] (.ref x :: st) σ Q := ru_loc (q := (_, _)) f_M_init_324 rfl rfl rfl
theorem f_M_init_325 : am_cd k_M_init 325 = some (none, .bipush 60, (0, 0, 0, 0, 0, .null)) := rfl
theorem s_M_init_325 {ls : am_L} {st : List Value} {σ : am_H} {Q : Option Value → am_H → Prop} : ax k_M_init 325 ls st σ Q = ax k_M_init 327 ls (.int 60 :: st) σ Q := ru_bipush f_M_init_325 (by decide +kernel) rfl
theorem f_M_init_327 : am_cd k_M_init 327 = some (none, .newarray .int, (0, 0, 108, 0, 0, .null)) := rfl
theorem s_M_init_327 {ls : am_L} {st : List Value} {σ : am_H} {Q : Option Value → am_H → Prop} {n : Int32} : ax k_M_init 327 ls (.int n :: st) σ Q = (am_mk n σ ∧ ax k_M_init 329 ls (.ref σ.1 :: st) (am_new σ n.toNatClampNeg (am_ia 0 n.toNatClampNeg (fun _ => 0))) Q) := ru_newi f_M_init_327 rfl
theorem f_M_init_329 : am_cd k_M_init 329 = some (none, .putfield 133, (11, 55, 972, 0, 3, .null)) := rfl
theorem s_M_init_329 {ls : am_L} {st : List Value} {σ : am_H} {Q : Option Value → am_H → Prop} {a : Nat} {v : Value} : ax k_M_init 329 ls (v :: .ref a :: st) σ Q = ax_f (am_fld σ a 11 55) (fun _ => a < am_top ∧ am_okv 3 v = true ∧ ax k_M_init 332 ls st (am_put σ a 55 v) Q) := ru_putf f_M_init_329 rfl
theorem f_M_init_332 : am_cd k_M_init 332 = some (none, .aload_n 0, (0, 0, 0, 0, 0, .null)) := rfl
theorem s_M_init_332 {st : List Value} {σ : am_H} {Q : Option Value → am_H → Prop} {x : Nat} : ax k_M_init 332 [some (.ref x)] st σ Q = ax k_M_init 333 [some (.ref x)] (.ref x :: st) σ Q := ru_loc (q := (_, _)) f_M_init_332 rfl rfl rfl
theorem f_M_init_333 : am_cd k_M_init 333 = some (none, .bipush 60, (0, 0, 0, 0, 0, .null)) := rfl
theorem s_M_init_333 {ls : am_L} {st : List Value} {σ : am_H} {Q : Option Value → am_H → Prop} : ax k_M_init 333 ls st σ Q = ax k_M_init 335 ls (.int 60 :: st) σ Q := ru_bipush f_M_init_333 (by decide +kernel) rfl
theorem f_M_init_335 : am_cd k_M_init 335 = some (none, .newarray .boolean, (0, 0, 1104, 0, 0, .null)) := rfl
theorem s_M_init_335 {ls : am_L} {st : List Value} {σ : am_H} {Q : Option Value → am_H → Prop} {n : Int32} : ax k_M_init 335 ls (.int n :: st) σ Q = (am_mk n σ ∧ ax k_M_init 337 ls (.ref σ.1 :: st) (am_new σ n.toNatClampNeg (am_ia 1 n.toNatClampNeg (fun _ => 0))) Q) := ru_newz f_M_init_335 rfl
theorem f_M_init_337 : am_cd k_M_init 337 = some (none, .putfield 136, (11, 56, 973, 0, 3, .null)) := rfl
theorem s_M_init_337 {ls : am_L} {st : List Value} {σ : am_H} {Q : Option Value → am_H → Prop} {a : Nat} {v : Value} : ax k_M_init 337 ls (v :: .ref a :: st) σ Q = ax_f (am_fld σ a 11 56) (fun _ => a < am_top ∧ am_okv 3 v = true ∧ ax k_M_init 340 ls st (am_put σ a 56 v) Q) := ru_putf f_M_init_337 rfl
theorem f_M_init_340 : am_cd k_M_init 340 = some (none, .aload_n 0, (0, 0, 0, 0, 0, .null)) := rfl
theorem s_M_init_340 {st : List Value} {σ : am_H} {Q : Option Value → am_H → Prop} {x : Nat} : ax k_M_init 340 [some (.ref x)] st σ Q = ax k_M_init 341 [some (.ref x)] (.ref x :: st) σ Q := ru_loc (q := (_, _)) f_M_init_340 rfl rfl rfl
theorem f_M_init_341 : am_cd k_M_init 341 = some (none, .bipush 60, (0, 0, 0, 0, 0, .null)) := rfl
theorem s_M_init_341 {ls : am_L} {st : List Value} {σ : am_H} {Q : Option Value → am_H → Prop} : ax k_M_init 341 ls st σ Q = ax k_M_init 343 ls (.int 60 :: st) σ Q := ru_bipush f_M_init_341 (by decide +kernel) rfl
theorem f_M_init_343 : am_cd k_M_init 343 = some (none, .newarray .int, (0, 0, 108, 0, 0, .null)) := rfl
theorem s_M_init_343 {ls : am_L} {st : List Value} {σ : am_H} {Q : Option Value → am_H → Prop} {n : Int32} : ax k_M_init 343 ls (.int n :: st) σ Q = (am_mk n σ ∧ ax k_M_init 345 ls (.ref σ.1 :: st) (am_new σ n.toNatClampNeg (am_ia 0 n.toNatClampNeg (fun _ => 0))) Q) := ru_newi f_M_init_343 rfl
theorem f_M_init_345 : am_cd k_M_init 345 = some (none, .putfield 139, (11, 57, 974, 0, 3, .null)) := rfl
theorem s_M_init_345 {ls : am_L} {st : List Value} {σ : am_H} {Q : Option Value → am_H → Prop} {a : Nat} {v : Value} : ax k_M_init 345 ls (v :: .ref a :: st) σ Q = ax_f (am_fld σ a 11 57) (fun _ => a < am_top ∧ am_okv 3 v = true ∧ ax k_M_init 348 ls st (am_put σ a 57 v) Q) := ru_putf f_M_init_345 rfl
theorem f_M_init_348 : am_cd k_M_init 348 = some (none, .aload_n 0, (0, 0, 0, 0, 0, .null)) := rfl
theorem s_M_init_348 {st : List Value} {σ : am_H} {Q : Option Value → am_H → Prop} {x : Nat} : ax k_M_init 348 [some (.ref x)] st σ Q = ax k_M_init 349 [some (.ref x)] (.ref x :: st) σ Q := ru_loc (q := (_, _)) f_M_init_348 rfl rfl rfl
theorem f_M_init_349 : am_cd k_M_init 349 = some (none, .iconst 5, (0, 0, 0, 0, 0, .null)) := rfl
theorem s_M_init_349 {ls : am_L} {st : List Value} {σ : am_H} {Q : Option Value → am_H → Prop} : ax k_M_init 349 ls st σ Q = ax k_M_init 350 ls (.int 5 :: st) σ Q := ru_iconst f_M_init_349 (by decide +kernel) rfl
theorem f_M_init_350 : am_cd k_M_init 350 = some (none, .newarray .int, (0, 0, 108, 0, 0, .null)) := rfl
theorem s_M_init_350 {ls : am_L} {st : List Value} {σ : am_H} {Q : Option Value → am_H → Prop} {n : Int32} : ax k_M_init 350 ls (.int n :: st) σ Q = (am_mk n σ ∧ ax k_M_init 352 ls (.ref σ.1 :: st) (am_new σ n.toNatClampNeg (am_ia 0 n.toNatClampNeg (fun _ => 0))) Q) := ru_newi f_M_init_350 rfl
theorem f_M_init_352 : am_cd k_M_init 352 = some (none, .dup, (0, 0, 0, 0, 0, .null)) := rfl
theorem s_M_init_352 {ls : am_L} {st : List Value} {σ : am_H} {Q : Option Value → am_H → Prop} {a : Nat} : ax k_M_init 352 ls (.ref a :: st) σ Q = ax k_M_init 353 ls (.ref a :: .ref a :: st) σ Q := ru_pure f_M_init_352 rfl rfl
theorem f_M_init_353 : am_cd k_M_init 353 = some (none, .iconst 0, (0, 0, 0, 0, 0, .null)) := rfl
theorem s_M_init_353 {ls : am_L} {st : List Value} {σ : am_H} {Q : Option Value → am_H → Prop} : ax k_M_init 353 ls st σ Q = ax k_M_init 354 ls (.int 0 :: st) σ Q := ru_iconst f_M_init_353 (by decide +kernel) rfl
theorem f_M_init_354 : am_cd k_M_init 354 = some (none, .bipush 100, (0, 0, 0, 0, 0, .null)) := rfl
theorem s_M_init_354 {ls : am_L} {st : List Value} {σ : am_H} {Q : Option Value → am_H → Prop} : ax k_M_init 354 ls st σ Q = ax k_M_init 356 ls (.int 100 :: st) σ Q := ru_bipush f_M_init_354 (by decide +kernel) rfl
theorem f_M_init_356 : am_cd k_M_init 356 = some (none, .iastore, (0, 0, 0, 0, 0, .null)) := rfl
theorem s_M_init_356 {ls : am_L} {st : List Value} {σ : am_H} {Q : Option Value → am_H → Prop} {a : Nat} {j x : Int32} : ax k_M_init 356 ls (.int x :: .int j :: .ref a :: st) σ Q = ax_f (am_j σ a) (fun q => q.1 = 0 ∧ am_ix j q.2.1 ∧ a < am_top ∧ ax k_M_init 357 ls st (am_set σ a (am_ia 0 q.2.1 (upd q.2.2 j.toNatClampNeg x))) Q) := rv_iast f_M_init_356 rfl
theorem f_M_init_357 : am_cd k_M_init 357 = some (none, .dup, (0, 0, 0, 0, 0, .null)) := rfl
theorem s_M_init_357 {ls : am_L} {st : List Value} {σ : am_H} {Q : Option Value → am_H → Prop} {a : Nat} : ax k_M_init 357 ls (.ref a :: st) σ Q = ax k_M_init 358 ls (.ref a :: .ref a :: st) σ Q := ru_pure f_M_init_357 rfl rfl
theorem f_M_init_358 : am_cd k_M_init 358 = some (none, .iconst 1, (0, 0, 0, 0, 0, .null)) := rfl
theorem s_M_init_358 {ls : am_L} {st : List Value} {σ : am_H} {Q : Option Value → am_H → Prop} : ax k_M_init 358 ls st σ Q = ax k_M_init 359 ls (.int 1 :: st) σ Q := ru_iconst f_M_init_358 (by decide +kernel) rfl
theorem f_M_init_359 : am_cd k_M_init 359 = some (none, .bipush 100, (0, 0, 0, 0, 0, .null)) := rfl
theorem s_M_init_359 {ls : am_L} {st : List Value} {σ : am_H} {Q : Option Value → am_H → Prop} : ax k_M_init 359 ls st σ Q = ax k_M_init 361 ls (.int 100 :: st) σ Q := ru_bipush f_M_init_359 (by decide +kernel) rfl
theorem f_M_init_361 : am_cd k_M_init 361 = some (none, .iastore, (0, 0, 0, 0, 0, .null)) := rfl
theorem s_M_init_361 {ls : am_L} {st : List Value} {σ : am_H} {Q : Option Value → am_H → Prop} {a : Nat} {j x : Int32} : ax k_M_init 361 ls (.int x :: .int j :: .ref a :: st) σ Q = ax_f (am_j σ a) (fun q => q.1 = 0 ∧ am_ix j q.2.1 ∧ a < am_top ∧ ax k_M_init 362 ls st (am_set σ a (am_ia 0 q.2.1 (upd q.2.2 j.toNatClampNeg x))) Q) := rv_iast f_M_init_361 rfl
theorem f_M_init_362 : am_cd k_M_init 362 = some (none, .dup, (0, 0, 0, 0, 0, .null)) := rfl
theorem s_M_init_362 {ls : am_L} {st : List Value} {σ : am_H} {Q : Option Value → am_H → Prop} {a : Nat} : ax k_M_init 362 ls (.ref a :: st) σ Q = ax k_M_init 363 ls (.ref a :: .ref a :: st) σ Q := ru_pure f_M_init_362 rfl rfl
theorem f_M_init_363 : am_cd k_M_init 363 = some (none, .iconst 2, (0, 0, 0, 0, 0, .null)) := rfl
theorem s_M_init_363 {ls : am_L} {st : List Value} {σ : am_H} {Q : Option Value → am_H → Prop} : ax k_M_init 363 ls st σ Q = ax k_M_init 364 ls (.int 2 :: st) σ Q := ru_iconst f_M_init_363 (by decide +kernel) rfl
theorem f_M_init_364 : am_cd k_M_init 364 = some (none, .bipush 100, (0, 0, 0, 0, 0, .null)) := rfl
theorem s_M_init_364 {ls : am_L} {st : List Value} {σ : am_H} {Q : Option Value → am_H → Prop} : ax k_M_init 364 ls st σ Q = ax k_M_init 366 ls (.int 100 :: st) σ Q := ru_bipush f_M_init_364 (by decide +kernel) rfl
theorem f_M_init_366 : am_cd k_M_init 366 = some (none, .iastore, (0, 0, 0, 0, 0, .null)) := rfl
theorem s_M_init_366 {ls : am_L} {st : List Value} {σ : am_H} {Q : Option Value → am_H → Prop} {a : Nat} {j x : Int32} : ax k_M_init 366 ls (.int x :: .int j :: .ref a :: st) σ Q = ax_f (am_j σ a) (fun q => q.1 = 0 ∧ am_ix j q.2.1 ∧ a < am_top ∧ ax k_M_init 367 ls st (am_set σ a (am_ia 0 q.2.1 (upd q.2.2 j.toNatClampNeg x))) Q) := rv_iast f_M_init_366 rfl
theorem f_M_init_367 : am_cd k_M_init 367 = some (none, .dup, (0, 0, 0, 0, 0, .null)) := rfl
theorem s_M_init_367 {ls : am_L} {st : List Value} {σ : am_H} {Q : Option Value → am_H → Prop} {a : Nat} : ax k_M_init 367 ls (.ref a :: st) σ Q = ax k_M_init 368 ls (.ref a :: .ref a :: st) σ Q := ru_pure f_M_init_367 rfl rfl
theorem f_M_init_368 : am_cd k_M_init 368 = some (none, .iconst 3, (0, 0, 0, 0, 0, .null)) := rfl
theorem s_M_init_368 {ls : am_L} {st : List Value} {σ : am_H} {Q : Option Value → am_H → Prop} : ax k_M_init 368 ls st σ Q = ax k_M_init 369 ls (.int 3 :: st) σ Q := ru_iconst f_M_init_368 (by decide +kernel) rfl
theorem f_M_init_369 : am_cd k_M_init 369 = some (none, .bipush 100, (0, 0, 0, 0, 0, .null)) := rfl
theorem s_M_init_369 {ls : am_L} {st : List Value} {σ : am_H} {Q : Option Value → am_H → Prop} : ax k_M_init 369 ls st σ Q = ax k_M_init 371 ls (.int 100 :: st) σ Q := ru_bipush f_M_init_369 (by decide +kernel) rfl
theorem f_M_init_371 : am_cd k_M_init 371 = some (none, .iastore, (0, 0, 0, 0, 0, .null)) := rfl
theorem s_M_init_371 {ls : am_L} {st : List Value} {σ : am_H} {Q : Option Value → am_H → Prop} {a : Nat} {j x : Int32} : ax k_M_init 371 ls (.int x :: .int j :: .ref a :: st) σ Q = ax_f (am_j σ a) (fun q => q.1 = 0 ∧ am_ix j q.2.1 ∧ a < am_top ∧ ax k_M_init 372 ls st (am_set σ a (am_ia 0 q.2.1 (upd q.2.2 j.toNatClampNeg x))) Q) := rv_iast f_M_init_371 rfl
theorem f_M_init_372 : am_cd k_M_init 372 = some (none, .dup, (0, 0, 0, 0, 0, .null)) := rfl
theorem s_M_init_372 {ls : am_L} {st : List Value} {σ : am_H} {Q : Option Value → am_H → Prop} {a : Nat} : ax k_M_init 372 ls (.ref a :: st) σ Q = ax k_M_init 373 ls (.ref a :: .ref a :: st) σ Q := ru_pure f_M_init_372 rfl rfl
theorem f_M_init_373 : am_cd k_M_init 373 = some (none, .iconst 4, (0, 0, 0, 0, 0, .null)) := rfl
theorem s_M_init_373 {ls : am_L} {st : List Value} {σ : am_H} {Q : Option Value → am_H → Prop} : ax k_M_init 373 ls st σ Q = ax k_M_init 374 ls (.int 4 :: st) σ Q := ru_iconst f_M_init_373 (by decide +kernel) rfl
theorem f_M_init_374 : am_cd k_M_init 374 = some (none, .bipush 100, (0, 0, 0, 0, 0, .null)) := rfl
theorem s_M_init_374 {ls : am_L} {st : List Value} {σ : am_H} {Q : Option Value → am_H → Prop} : ax k_M_init 374 ls st σ Q = ax k_M_init 376 ls (.int 100 :: st) σ Q := ru_bipush f_M_init_374 (by decide +kernel) rfl
theorem f_M_init_376 : am_cd k_M_init 376 = some (none, .iastore, (0, 0, 0, 0, 0, .null)) := rfl
theorem s_M_init_376 {ls : am_L} {st : List Value} {σ : am_H} {Q : Option Value → am_H → Prop} {a : Nat} {j x : Int32} : ax k_M_init 376 ls (.int x :: .int j :: .ref a :: st) σ Q = ax_f (am_j σ a) (fun q => q.1 = 0 ∧ am_ix j q.2.1 ∧ a < am_top ∧ ax k_M_init 377 ls st (am_set σ a (am_ia 0 q.2.1 (upd q.2.2 j.toNatClampNeg x))) Q) := rv_iast f_M_init_376 rfl
theorem f_M_init_377 : am_cd k_M_init 377 = some (none, .putfield 142, (11, 58, 975, 0, 3, .null)) := rfl
theorem s_M_init_377 {ls : am_L} {st : List Value} {σ : am_H} {Q : Option Value → am_H → Prop} {a : Nat} {v : Value} : ax k_M_init 377 ls (v :: .ref a :: st) σ Q = ax_f (am_fld σ a 11 58) (fun _ => a < am_top ∧ am_okv 3 v = true ∧ ax k_M_init 380 ls st (am_put σ a 58 v) Q) := ru_putf f_M_init_377 rfl
theorem f_M_init_380 : am_cd k_M_init 380 = some (none, .aload_n 0, (0, 0, 0, 0, 0, .null)) := rfl
theorem s_M_init_380 {st : List Value} {σ : am_H} {Q : Option Value → am_H → Prop} {x : Nat} : ax k_M_init 380 [some (.ref x)] st σ Q = ax k_M_init 381 [some (.ref x)] (.ref x :: st) σ Q := ru_loc (q := (_, _)) f_M_init_380 rfl rfl rfl
theorem f_M_init_381 : am_cd k_M_init 381 = some (none, .bipush 50, (0, 0, 0, 0, 0, .null)) := rfl
theorem s_M_init_381 {ls : am_L} {st : List Value} {σ : am_H} {Q : Option Value → am_H → Prop} : ax k_M_init 381 ls st σ Q = ax k_M_init 383 ls (.int 50 :: st) σ Q := ru_bipush f_M_init_381 (by decide +kernel) rfl
theorem f_M_init_383 : am_cd k_M_init 383 = some (none, .putfield 145, (11, 59, 976, 0, 0, .null)) := rfl
theorem s_M_init_383 {ls : am_L} {st : List Value} {σ : am_H} {Q : Option Value → am_H → Prop} {a : Nat} {v : Value} : ax k_M_init 383 ls (v :: .ref a :: st) σ Q = ax_f (am_fld σ a 11 59) (fun _ => a < am_top ∧ am_okv 0 v = true ∧ ax k_M_init 386 ls st (am_put σ a 59 v) Q) := ru_putf f_M_init_383 rfl
theorem f_M_init_386 : am_cd k_M_init 386 = some (none, .aload_n 0, (0, 0, 0, 0, 0, .null)) := rfl
theorem s_M_init_386 {st : List Value} {σ : am_H} {Q : Option Value → am_H → Prop} {x : Nat} : ax k_M_init 386 [some (.ref x)] st σ Q = ax k_M_init 387 [some (.ref x)] (.ref x :: st) σ Q := ru_loc (q := (_, _)) f_M_init_386 rfl rfl rfl
theorem f_M_init_387 : am_cd k_M_init 387 = some (none, .bipush 60, (0, 0, 0, 0, 0, .null)) := rfl
theorem s_M_init_387 {ls : am_L} {st : List Value} {σ : am_H} {Q : Option Value → am_H → Prop} : ax k_M_init 387 ls st σ Q = ax k_M_init 389 ls (.int 60 :: st) σ Q := ru_bipush f_M_init_387 (by decide +kernel) rfl
theorem f_M_init_389 : am_cd k_M_init 389 = some (none, .newarray .int, (0, 0, 108, 0, 0, .null)) := rfl
theorem s_M_init_389 {ls : am_L} {st : List Value} {σ : am_H} {Q : Option Value → am_H → Prop} {n : Int32} : ax k_M_init 389 ls (.int n :: st) σ Q = (am_mk n σ ∧ ax k_M_init 391 ls (.ref σ.1 :: st) (am_new σ n.toNatClampNeg (am_ia 0 n.toNatClampNeg (fun _ => 0))) Q) := ru_newi f_M_init_389 rfl
theorem f_M_init_391 : am_cd k_M_init 391 = some (none, .putfield 148, (11, 61, 978, 0, 3, .null)) := rfl
theorem s_M_init_391 {ls : am_L} {st : List Value} {σ : am_H} {Q : Option Value → am_H → Prop} {a : Nat} {v : Value} : ax k_M_init 391 ls (v :: .ref a :: st) σ Q = ax_f (am_fld σ a 11 61) (fun _ => a < am_top ∧ am_okv 3 v = true ∧ ax k_M_init 394 ls st (am_put σ a 61 v) Q) := ru_putf f_M_init_391 rfl
theorem f_M_init_394 : am_cd k_M_init 394 = some (none, .return_, (0, 0, 0, 0, 0, .null)) := rfl
theorem s_M_init_394 {ls : am_L} {σ : am_H} {Q : Option Value → am_H → Prop} : ax k_M_init 394 ls ([]) σ Q = Q none σ := ru_ret f_M_init_394 rfl rfl rfl rfl rfl rfl rfl
theorem f_M_isIn_0 : am_cd k_M_isIn 0 = some ((some .boolean), .iload_n 0, (0, 0, 0, 0, 0, .null)) := rfl
theorem s_M_isIn_0 {a1 a2 : Option Value} {st : List Value} {σ : am_H} {Q : Option Value → am_H → Prop} {x : Int32} : ax k_M_isIn 0 [some (.int x), a1, a2] st σ Q = ax k_M_isIn 1 [some (.int x), a1, a2] (.int x :: st) σ Q := ru_loc (q := (_, _)) f_M_isIn_0 rfl rfl rfl
theorem f_M_isIn_1 : am_cd k_M_isIn 1 = some ((some .boolean), .iload_n 1, (0, 0, 0, 0, 0, .null)) := rfl
theorem s_M_isIn_1 {a0 a2 : Option Value} {st : List Value} {σ : am_H} {Q : Option Value → am_H → Prop} {x : Int32} : ax k_M_isIn 1 [a0, some (.int x), a2] st σ Q = ax k_M_isIn 2 [a0, some (.int x), a2] (.int x :: st) σ Q := ru_loc (q := (_, _)) f_M_isIn_1 rfl rfl rfl
theorem f_M_isIn_2 : am_cd k_M_isIn 2 = some ((some .boolean), .if_icmp .lt 12, (14, 0, 0, 0, 0, .null)) := rfl
theorem s_M_isIn_2 {ls : am_L} {st : List Value} {σ : am_H} {Q : Option Value → am_H → Prop} {x y : Int32} : ax k_M_isIn 2 ls (.int y :: .int x :: st) σ Q = (if x < y then ax k_M_isIn 14 ls st σ Q else ax k_M_isIn 5 ls st σ Q) := (ru_icmp f_M_isIn_2 rfl).trans (ru_i_lt _ _ _ _)
theorem f_M_isIn_5 : am_cd k_M_isIn 5 = some ((some .boolean), .iload_n 0, (0, 0, 0, 0, 0, .null)) := rfl
theorem s_M_isIn_5 {a1 a2 : Option Value} {st : List Value} {σ : am_H} {Q : Option Value → am_H → Prop} {x : Int32} : ax k_M_isIn 5 [some (.int x), a1, a2] st σ Q = ax k_M_isIn 6 [some (.int x), a1, a2] (.int x :: st) σ Q := ru_loc (q := (_, _)) f_M_isIn_5 rfl rfl rfl
theorem f_M_isIn_6 : am_cd k_M_isIn 6 = some ((some .boolean), .iload_n 2, (0, 0, 0, 0, 0, .null)) := rfl
theorem s_M_isIn_6 {a0 a1 : Option Value} {st : List Value} {σ : am_H} {Q : Option Value → am_H → Prop} {x : Int32} : ax k_M_isIn 6 [a0, a1, some (.int x)] st σ Q = ax k_M_isIn 7 [a0, a1, some (.int x)] (.int x :: st) σ Q := ru_loc (q := (_, _)) f_M_isIn_6 rfl rfl rfl
theorem f_M_isIn_7 : am_cd k_M_isIn 7 = some ((some .boolean), .if_icmp .gt 7, (14, 0, 0, 0, 0, .null)) := rfl
theorem s_M_isIn_7 {ls : am_L} {st : List Value} {σ : am_H} {Q : Option Value → am_H → Prop} {x y : Int32} : ax k_M_isIn 7 ls (.int y :: .int x :: st) σ Q = (if y < x then ax k_M_isIn 14 ls st σ Q else ax k_M_isIn 10 ls st σ Q) := (ru_icmp f_M_isIn_7 rfl).trans (ru_i_gt _ _ _ _)
theorem f_M_isIn_10 : am_cd k_M_isIn 10 = some ((some .boolean), .iconst 1, (0, 0, 0, 0, 0, .null)) := rfl
theorem s_M_isIn_10 {ls : am_L} {st : List Value} {σ : am_H} {Q : Option Value → am_H → Prop} : ax k_M_isIn 10 ls st σ Q = ax k_M_isIn 11 ls (.int 1 :: st) σ Q := ru_iconst f_M_isIn_10 (by decide +kernel) rfl
theorem f_M_isIn_11 : am_cd k_M_isIn 11 = some ((some .boolean), .goto 4, (15, 0, 0, 0, 0, .null)) := rfl
theorem s_M_isIn_11 {ls : am_L} {st : List Value} {σ : am_H} {Q : Option Value → am_H → Prop} : ax k_M_isIn 11 ls st σ Q = ax k_M_isIn 15 ls st σ Q := ru_goto f_M_isIn_11
theorem f_M_isIn_14 : am_cd k_M_isIn 14 = some ((some .boolean), .iconst 0, (0, 0, 0, 0, 0, .null)) := rfl
theorem s_M_isIn_14 {ls : am_L} {st : List Value} {σ : am_H} {Q : Option Value → am_H → Prop} : ax k_M_isIn 14 ls st σ Q = ax k_M_isIn 15 ls (.int 0 :: st) σ Q := ru_iconst f_M_isIn_14 (by decide +kernel) rfl
theorem f_M_isIn_15 : am_cd k_M_isIn 15 = some ((some .boolean), .ireturn, (0, 0, 0, 0, 0, .null)) := rfl
theorem s_M_isIn_15 {ls : am_L} {σ : am_H} {Q : Option Value → am_H → Prop} {v : Int32} : ax k_M_isIn 15 ls ([.int v]) σ Q = (am_nar .boolean v = true ∧ Q (some (.int v)) σ) := ru_iret f_M_isIn_15
theorem f_M_isWord_0 : am_cd k_M_isWord 0 = some ((some .boolean), .iload_n 1, (0, 0, 0, 0, 0, .null)) := rfl
theorem s_M_isWord_0 {a0 : Option Value} {st : List Value} {σ : am_H} {Q : Option Value → am_H → Prop} {x : Int32} : ax k_M_isWord 0 [a0, some (.int x)] st σ Q = ax k_M_isWord 1 [a0, some (.int x)] (.int x :: st) σ Q := ru_loc (q := (_, _)) f_M_isWord_0 rfl rfl rfl
theorem f_M_isWord_1 : am_cd k_M_isWord 1 = some ((some .boolean), .iconst 0, (0, 0, 0, 0, 0, .null)) := rfl
theorem s_M_isWord_1 {ls : am_L} {st : List Value} {σ : am_H} {Q : Option Value → am_H → Prop} : ax k_M_isWord 1 ls st σ Q = ax k_M_isWord 2 ls (.int 0 :: st) σ Q := ru_iconst f_M_isWord_1 (by decide +kernel) rfl
theorem f_M_isWord_2 : am_cd k_M_isWord 2 = some ((some .boolean), .aload_n 0, (0, 0, 0, 0, 0, .null)) := rfl
theorem s_M_isWord_2 {a1 : Option Value} {st : List Value} {σ : am_H} {Q : Option Value → am_H → Prop} {x : Nat} : ax k_M_isWord 2 [some (.ref x), a1] st σ Q = ax k_M_isWord 3 [some (.ref x), a1] (.ref x :: st) σ Q := ru_loc (q := (_, _)) f_M_isWord_2 rfl rfl rfl
theorem f_M_isWord_3 : am_cd k_M_isWord 3 = some ((some .boolean), .getfield 151, (11, 1, 918, 0, 0, .null)) := rfl
theorem s_M_isWord_3 {ls : am_L} {st : List Value} {σ : am_H} {Q : Option Value → am_H → Prop} {a : Nat} : ax k_M_isWord 3 ls (.ref a :: st) σ Q = ax_f (am_fld σ a 11 1) (fun v => ax k_M_isWord 6 ls (v :: st) σ Q) := ru_getf f_M_isWord_3 rfl
theorem f_M_isWord_6 : am_cd k_M_isWord 6 = some ((some .boolean), .iconst 1, (0, 0, 0, 0, 0, .null)) := rfl
theorem s_M_isWord_6 {ls : am_L} {st : List Value} {σ : am_H} {Q : Option Value → am_H → Prop} : ax k_M_isWord 6 ls st σ Q = ax k_M_isWord 7 ls (.int 1 :: st) σ Q := ru_iconst f_M_isWord_6 (by decide +kernel) rfl
theorem f_M_isWord_7 : am_cd k_M_isWord 7 = some ((some .boolean), .isub, (0, 0, 0, 0, 0, .null)) := rfl
theorem s_M_isWord_7 {ls : am_L} {st : List Value} {σ : am_H} {Q : Option Value → am_H → Prop} {x y : Int32} : ax k_M_isWord 7 ls (.int y :: .int x :: st) σ Q = ax k_M_isWord 8 ls (.int (x - y) :: st) σ Q := ru_pure f_M_isWord_7 rfl rfl
theorem f_M_isWord_8 : am_cd k_M_isWord 8 = some ((some .boolean), .invokestatic 154, (113, 3, 1110, 0, 11, .null)) := rfl
theorem s_M_isWord_8 {ls : am_L} {st : List Value} {σ : am_H} {Q : Option Value → am_H → Prop} {p0 : Int32} {p1 : Int32} {p2 : Int32} (h8 : am_s8 st) : ax k_M_isWord 8 ls (.int p2 :: .int p1 :: .int p0 :: st) σ Q = ax k_M_isIn 0 [some (.int p0), some (.int p1), some (.int p2)] [] σ (ax_k k_M_isWord 11 ls st Q) := ru_sta (M' := rk_M_isIn) f_M_isWord_8 rfl (by decide) rfl (by simp) rfl h8 rfl rfl rfl rfl rfl
theorem f_M_isWord_11 : am_cd k_M_isWord 11 = some ((some .boolean), .ireturn, (0, 0, 0, 0, 0, .null)) := rfl
theorem s_M_isWord_11 {ls : am_L} {σ : am_H} {Q : Option Value → am_H → Prop} {v : Int32} : ax k_M_isWord 11 ls ([.int v]) σ Q = (am_nar .boolean v = true ∧ Q (some (.int v)) σ) := ru_iret f_M_isWord_11
theorem f_M_isPicture_0 : am_cd k_M_isPicture 0 = some ((some .boolean), .iload_n 1, (0, 0, 0, 0, 0, .null)) := rfl
theorem s_M_isPicture_0 {a0 : Option Value} {st : List Value} {σ : am_H} {Q : Option Value → am_H → Prop} {x : Int32} : ax k_M_isPicture 0 [a0, some (.int x)] st σ Q = ax k_M_isPicture 1 [a0, some (.int x)] (.int x :: st) σ Q := ru_loc (q := (_, _)) f_M_isPicture_0 rfl rfl rfl
theorem f_M_isPicture_1 : am_cd k_M_isPicture 1 = some ((some .boolean), .iconst 0, (0, 0, 0, 0, 0, .null)) := rfl
theorem s_M_isPicture_1 {ls : am_L} {st : List Value} {σ : am_H} {Q : Option Value → am_H → Prop} : ax k_M_isPicture 1 ls st σ Q = ax k_M_isPicture 2 ls (.int 0 :: st) σ Q := ru_iconst f_M_isPicture_1 (by decide +kernel) rfl
theorem f_M_isPicture_2 : am_cd k_M_isPicture 2 = some ((some .boolean), .aload_n 0, (0, 0, 0, 0, 0, .null)) := rfl
theorem s_M_isPicture_2 {a1 : Option Value} {st : List Value} {σ : am_H} {Q : Option Value → am_H → Prop} {x : Nat} : ax k_M_isPicture 2 [some (.ref x), a1] st σ Q = ax k_M_isPicture 3 [some (.ref x), a1] (.ref x :: st) σ Q := ru_loc (q := (_, _)) f_M_isPicture_2 rfl rfl rfl
theorem f_M_isPicture_3 : am_cd k_M_isPicture 3 = some ((some .boolean), .getfield 158, (11, 7, 924, 0, 0, .null)) := rfl
theorem s_M_isPicture_3 {ls : am_L} {st : List Value} {σ : am_H} {Q : Option Value → am_H → Prop} {a : Nat} : ax k_M_isPicture 3 ls (.ref a :: st) σ Q = ax_f (am_fld σ a 11 7) (fun v => ax k_M_isPicture 6 ls (v :: st) σ Q) := ru_getf f_M_isPicture_3 rfl
theorem f_M_isPicture_6 : am_cd k_M_isPicture 6 = some ((some .boolean), .iconst 1, (0, 0, 0, 0, 0, .null)) := rfl
theorem s_M_isPicture_6 {ls : am_L} {st : List Value} {σ : am_H} {Q : Option Value → am_H → Prop} : ax k_M_isPicture 6 ls st σ Q = ax k_M_isPicture 7 ls (.int 1 :: st) σ Q := ru_iconst f_M_isPicture_6 (by decide +kernel) rfl
theorem f_M_isPicture_7 : am_cd k_M_isPicture 7 = some ((some .boolean), .isub, (0, 0, 0, 0, 0, .null)) := rfl
theorem s_M_isPicture_7 {ls : am_L} {st : List Value} {σ : am_H} {Q : Option Value → am_H → Prop} {x y : Int32} : ax k_M_isPicture 7 ls (.int y :: .int x :: st) σ Q = ax k_M_isPicture 8 ls (.int (x - y) :: st) σ Q := ru_pure f_M_isPicture_7 rfl rfl
theorem f_M_isPicture_8 : am_cd k_M_isPicture 8 = some ((some .boolean), .invokestatic 154, (113, 3, 1110, 0, 11, .null)) := rfl
theorem s_M_isPicture_8 {ls : am_L} {st : List Value} {σ : am_H} {Q : Option Value → am_H → Prop} {p0 : Int32} {p1 : Int32} {p2 : Int32} (h8 : am_s8 st) : ax k_M_isPicture 8 ls (.int p2 :: .int p1 :: .int p0 :: st) σ Q = ax k_M_isIn 0 [some (.int p0), some (.int p1), some (.int p2)] [] σ (ax_k k_M_isPicture 11 ls st Q) := ru_sta (M' := rk_M_isIn) f_M_isPicture_8 rfl (by decide) rfl (by simp) rfl h8 rfl rfl rfl rfl rfl
theorem f_M_isPicture_11 : am_cd k_M_isPicture 11 = some ((some .boolean), .ireturn, (0, 0, 0, 0, 0, .null)) := rfl
theorem s_M_isPicture_11 {ls : am_L} {σ : am_H} {Q : Option Value → am_H → Prop} {v : Int32} : ax k_M_isPicture 11 ls ([.int v]) σ Q = (am_nar .boolean v = true ∧ Q (some (.int v)) σ) := ru_iret f_M_isPicture_11
theorem f_M_isPast_0 : am_cd k_M_isPast 0 = some ((some .boolean), .iload_n 1, (0, 0, 0, 0, 0, .null)) := rfl
theorem s_M_isPast_0 {a0 : Option Value} {st : List Value} {σ : am_H} {Q : Option Value → am_H → Prop} {x : Int32} : ax k_M_isPast 0 [a0, some (.int x)] st σ Q = ax k_M_isPast 1 [a0, some (.int x)] (.int x :: st) σ Q := ru_loc (q := (_, _)) f_M_isPast_0 rfl rfl rfl
theorem f_M_isPast_1 : am_cd k_M_isPast 1 = some ((some .boolean), .iconst 0, (0, 0, 0, 0, 0, .null)) := rfl
theorem s_M_isPast_1 {ls : am_L} {st : List Value} {σ : am_H} {Q : Option Value → am_H → Prop} : ax k_M_isPast 1 ls st σ Q = ax k_M_isPast 2 ls (.int 0 :: st) σ Q := ru_iconst f_M_isPast_1 (by decide +kernel) rfl
theorem f_M_isPast_2 : am_cd k_M_isPast 2 = some ((some .boolean), .aload_n 0, (0, 0, 0, 0, 0, .null)) := rfl
theorem s_M_isPast_2 {a1 : Option Value} {st : List Value} {σ : am_H} {Q : Option Value → am_H → Prop} {x : Nat} : ax k_M_isPast 2 [some (.ref x), a1] st σ Q = ax k_M_isPast 3 [some (.ref x), a1] (.ref x :: st) σ Q := ru_loc (q := (_, _)) f_M_isPast_2 rfl rfl rfl
theorem f_M_isPast_3 : am_cd k_M_isPast 3 = some ((some .boolean), .getfield 161, (11, 0, 917, 0, 0, .null)) := rfl
theorem s_M_isPast_3 {ls : am_L} {st : List Value} {σ : am_H} {Q : Option Value → am_H → Prop} {a : Nat} : ax k_M_isPast 3 ls (.ref a :: st) σ Q = ax_f (am_fld σ a 11 0) (fun v => ax k_M_isPast 6 ls (v :: st) σ Q) := ru_getf f_M_isPast_3 rfl
theorem f_M_isPast_6 : am_cd k_M_isPast 6 = some ((some .boolean), .invokestatic 154, (113, 3, 1110, 0, 11, .null)) := rfl
theorem s_M_isPast_6 {ls : am_L} {st : List Value} {σ : am_H} {Q : Option Value → am_H → Prop} {p0 : Int32} {p1 : Int32} {p2 : Int32} (h8 : am_s8 st) : ax k_M_isPast 6 ls (.int p2 :: .int p1 :: .int p0 :: st) σ Q = ax k_M_isIn 0 [some (.int p0), some (.int p1), some (.int p2)] [] σ (ax_k k_M_isPast 9 ls st Q) := ru_sta (M' := rk_M_isIn) f_M_isPast_6 rfl (by decide) rfl (by simp) rfl h8 rfl rfl rfl rfl rfl
theorem f_M_isPast_9 : am_cd k_M_isPast 9 = some ((some .boolean), .ireturn, (0, 0, 0, 0, 0, .null)) := rfl
theorem s_M_isPast_9 {ls : am_L} {σ : am_H} {Q : Option Value → am_H → Prop} {v : Int32} : ax k_M_isPast 9 ls ([.int v]) σ Q = (am_nar .boolean v = true ∧ Q (some (.int v)) σ) := ru_iret f_M_isPast_9
theorem f_M_minute_0 : am_cd k_M_minute 0 = some ((some .boolean), .iload_n 1, (0, 0, 0, 0, 0, .null)) := rfl
theorem s_M_minute_0 {a0 : Option Value} {st : List Value} {σ : am_H} {Q : Option Value → am_H → Prop} {x : Int32} : ax k_M_minute 0 [a0, some (.int x)] st σ Q = ax k_M_minute 1 [a0, some (.int x)] (.int x :: st) σ Q := ru_loc (q := (_, _)) f_M_minute_0 rfl rfl rfl
theorem f_M_minute_1 : am_cd k_M_minute 1 = some ((some .boolean), .aload_n 0, (0, 0, 0, 0, 0, .null)) := rfl
theorem s_M_minute_1 {a1 : Option Value} {st : List Value} {σ : am_H} {Q : Option Value → am_H → Prop} {x : Nat} : ax k_M_minute 1 [some (.ref x), a1] st σ Q = ax k_M_minute 2 [some (.ref x), a1] (.ref x :: st) σ Q := ru_loc (q := (_, _)) f_M_minute_1 rfl rfl rfl
theorem f_M_minute_2 : am_cd k_M_minute 2 = some ((some .boolean), .getfield 161, (11, 0, 917, 0, 0, .null)) := rfl
theorem s_M_minute_2 {ls : am_L} {st : List Value} {σ : am_H} {Q : Option Value → am_H → Prop} {a : Nat} : ax k_M_minute 2 ls (.ref a :: st) σ Q = ax_f (am_fld σ a 11 0) (fun v => ax k_M_minute 5 ls (v :: st) σ Q) := ru_getf f_M_minute_2 rfl
theorem f_M_minute_5 : am_cd k_M_minute 5 = some ((some .boolean), .ldc 164, (0, 0, 1109, 0, 0, .int (100000))) := rfl
theorem s_M_minute_5 {ls : am_L} {st : List Value} {σ : am_H} {Q : Option Value → am_H → Prop} : ax k_M_minute 5 ls st σ Q = ax k_M_minute 7 ls (.int (100000) :: st) σ Q := ru_rd f_M_minute_5 rfl rfl rfl rfl rfl
theorem f_M_minute_7 : am_cd k_M_minute 7 = some ((some .boolean), .invokestatic 154, (113, 3, 1110, 0, 11, .null)) := rfl
theorem s_M_minute_7 {ls : am_L} {st : List Value} {σ : am_H} {Q : Option Value → am_H → Prop} {p0 : Int32} {p1 : Int32} {p2 : Int32} (h8 : am_s8 st) : ax k_M_minute 7 ls (.int p2 :: .int p1 :: .int p0 :: st) σ Q = ax k_M_isIn 0 [some (.int p0), some (.int p1), some (.int p2)] [] σ (ax_k k_M_minute 10 ls st Q) := ru_sta (M' := rk_M_isIn) f_M_minute_7 rfl (by decide) rfl (by simp) rfl h8 rfl rfl rfl rfl rfl
theorem f_M_minute_10 : am_cd k_M_minute 10 = some ((some .boolean), .ifCond .ne 5, (15, 0, 0, 0, 0, .null)) := rfl
theorem s_M_minute_10 {ls : am_L} {st : List Value} {σ : am_H} {Q : Option Value → am_H → Prop} {x : Int32} : ax k_M_minute 10 ls (.int x :: st) σ Q = (if x = 0 then ax k_M_minute 13 ls st σ Q else ax k_M_minute 15 ls st σ Q) := (ru_if f_M_minute_10 rfl).trans (ru_i_ne _ _ _ _)
theorem f_M_minute_13 : am_cd k_M_minute 13 = some ((some .boolean), .iconst 0, (0, 0, 0, 0, 0, .null)) := rfl
theorem s_M_minute_13 {ls : am_L} {st : List Value} {σ : am_H} {Q : Option Value → am_H → Prop} : ax k_M_minute 13 ls st σ Q = ax k_M_minute 14 ls (.int 0 :: st) σ Q := ru_iconst f_M_minute_13 (by decide +kernel) rfl
theorem f_M_minute_14 : am_cd k_M_minute 14 = some ((some .boolean), .ireturn, (0, 0, 0, 0, 0, .null)) := rfl
theorem s_M_minute_14 {ls : am_L} {σ : am_H} {Q : Option Value → am_H → Prop} {v : Int32} : ax k_M_minute 14 ls ([.int v]) σ Q = (am_nar .boolean v = true ∧ Q (some (.int v)) σ) := ru_iret f_M_minute_14
theorem f_M_minute_15 : am_cd k_M_minute 15 = some ((some .boolean), .aload_n 0, (0, 0, 0, 0, 0, .null)) := rfl
theorem s_M_minute_15 {a1 : Option Value} {st : List Value} {σ : am_H} {Q : Option Value → am_H → Prop} {x : Nat} : ax k_M_minute 15 [some (.ref x), a1] st σ Q = ax k_M_minute 16 [some (.ref x), a1] (.ref x :: st) σ Q := ru_loc (q := (_, _)) f_M_minute_15 rfl rfl rfl
theorem f_M_minute_16 : am_cd k_M_minute 16 = some ((some .boolean), .iload_n 1, (0, 0, 0, 0, 0, .null)) := rfl
theorem s_M_minute_16 {a0 : Option Value} {st : List Value} {σ : am_H} {Q : Option Value → am_H → Prop} {x : Int32} : ax k_M_minute 16 [a0, some (.int x)] st σ Q = ax k_M_minute 17 [a0, some (.int x)] (.int x :: st) σ Q := ru_loc (q := (_, _)) f_M_minute_16 rfl rfl rfl
theorem f_M_minute_17 : am_cd k_M_minute 17 = some ((some .boolean), .putfield 161, (11, 0, 917, 0, 0, .null)) := rfl
theorem s_M_minute_17 {ls : am_L} {st : List Value} {σ : am_H} {Q : Option Value → am_H → Prop} {a : Nat} {v : Value} : ax k_M_minute 17 ls (v :: .ref a :: st) σ Q = ax_f (am_fld σ a 11 0) (fun _ => a < am_top ∧ am_okv 0 v = true ∧ ax k_M_minute 20 ls st (am_put σ a 0 v) Q) := ru_putf f_M_minute_17 rfl
theorem f_M_minute_20 : am_cd k_M_minute 20 = some ((some .boolean), .iconst 1, (0, 0, 0, 0, 0, .null)) := rfl
theorem s_M_minute_20 {ls : am_L} {st : List Value} {σ : am_H} {Q : Option Value → am_H → Prop} : ax k_M_minute 20 ls st σ Q = ax k_M_minute 21 ls (.int 1 :: st) σ Q := ru_iconst f_M_minute_20 (by decide +kernel) rfl
theorem f_M_minute_21 : am_cd k_M_minute 21 = some ((some .boolean), .ireturn, (0, 0, 0, 0, 0, .null)) := rfl
theorem s_M_minute_21 {ls : am_L} {σ : am_H} {Q : Option Value → am_H → Prop} {v : Int32} : ax k_M_minute 21 ls ([.int v]) σ Q = (am_nar .boolean v = true ∧ Q (some (.int v)) σ) := ru_iret f_M_minute_21
theorem f_M_keepPut_0 : am_cd k_M_keepPut 0 = some (none, .aload_n 0, (0, 0, 0, 0, 0, .null)) := rfl
theorem s_M_keepPut_0 {a1 a2 : Option Value} {st : List Value} {σ : am_H} {Q : Option Value → am_H → Prop} {x : Nat} : ax k_M_keepPut 0 [some (.ref x), a1, a2] st σ Q = ax k_M_keepPut 1 [some (.ref x), a1, a2] (.ref x :: st) σ Q := ru_loc (q := (_, _)) f_M_keepPut_0 rfl rfl rfl
theorem f_M_keepPut_1 : am_cd k_M_keepPut 1 = some (none, .getfield 7, (11, 4, 921, 0, 3, .null)) := rfl
theorem s_M_keepPut_1 {ls : am_L} {st : List Value} {σ : am_H} {Q : Option Value → am_H → Prop} {a : Nat} : ax k_M_keepPut 1 ls (.ref a :: st) σ Q = ax_f (am_fld σ a 11 4) (fun v => ax k_M_keepPut 4 ls (v :: st) σ Q) := ru_getf f_M_keepPut_1 rfl
theorem f_M_keepPut_4 : am_cd k_M_keepPut 4 = some (none, .aload_n 0, (0, 0, 0, 0, 0, .null)) := rfl
theorem s_M_keepPut_4 {a1 a2 : Option Value} {st : List Value} {σ : am_H} {Q : Option Value → am_H → Prop} {x : Nat} : ax k_M_keepPut 4 [some (.ref x), a1, a2] st σ Q = ax k_M_keepPut 5 [some (.ref x), a1, a2] (.ref x :: st) σ Q := ru_loc (q := (_, _)) f_M_keepPut_4 rfl rfl rfl
theorem f_M_keepPut_5 : am_cd k_M_keepPut 5 = some (none, .getfield 165, (11, 2, 919, 0, 0, .null)) := rfl
theorem s_M_keepPut_5 {ls : am_L} {st : List Value} {σ : am_H} {Q : Option Value → am_H → Prop} {a : Nat} : ax k_M_keepPut 5 ls (.ref a :: st) σ Q = ax_f (am_fld σ a 11 2) (fun v => ax k_M_keepPut 8 ls (v :: st) σ Q) := ru_getf f_M_keepPut_5 rfl
theorem f_M_keepPut_8 : am_cd k_M_keepPut 8 = some (none, .iload_n 1, (0, 0, 0, 0, 0, .null)) := rfl
theorem s_M_keepPut_8 {a0 a2 : Option Value} {st : List Value} {σ : am_H} {Q : Option Value → am_H → Prop} {x : Int32} : ax k_M_keepPut 8 [a0, some (.int x), a2] st σ Q = ax k_M_keepPut 9 [a0, some (.int x), a2] (.int x :: st) σ Q := ru_loc (q := (_, _)) f_M_keepPut_8 rfl rfl rfl
theorem f_M_keepPut_9 : am_cd k_M_keepPut 9 = some (none, .iastore, (0, 0, 0, 0, 0, .null)) := rfl
theorem s_M_keepPut_9 {ls : am_L} {st : List Value} {σ : am_H} {Q : Option Value → am_H → Prop} {a : Nat} {j x : Int32} : ax k_M_keepPut 9 ls (.int x :: .int j :: .ref a :: st) σ Q = ax_f (am_j σ a) (fun q => q.1 = 0 ∧ am_ix j q.2.1 ∧ a < am_top ∧ ax k_M_keepPut 10 ls st (am_set σ a (am_ia 0 q.2.1 (upd q.2.2 j.toNatClampNeg x))) Q) := rv_iast f_M_keepPut_9 rfl
theorem f_M_keepPut_10 : am_cd k_M_keepPut 10 = some (none, .aload_n 0, (0, 0, 0, 0, 0, .null)) := rfl
theorem s_M_keepPut_10 {a1 a2 : Option Value} {st : List Value} {σ : am_H} {Q : Option Value → am_H → Prop} {x : Nat} : ax k_M_keepPut 10 [some (.ref x), a1, a2] st σ Q = ax k_M_keepPut 11 [some (.ref x), a1, a2] (.ref x :: st) σ Q := ru_loc (q := (_, _)) f_M_keepPut_10 rfl rfl rfl
theorem f_M_keepPut_11 : am_cd k_M_keepPut 11 = some (none, .getfield 13, (11, 5, 922, 0, 3, .null)) := rfl
theorem s_M_keepPut_11 {ls : am_L} {st : List Value} {σ : am_H} {Q : Option Value → am_H → Prop} {a : Nat} : ax k_M_keepPut 11 ls (.ref a :: st) σ Q = ax_f (am_fld σ a 11 5) (fun v => ax k_M_keepPut 14 ls (v :: st) σ Q) := ru_getf f_M_keepPut_11 rfl
theorem f_M_keepPut_14 : am_cd k_M_keepPut 14 = some (none, .aload_n 0, (0, 0, 0, 0, 0, .null)) := rfl
theorem s_M_keepPut_14 {a1 a2 : Option Value} {st : List Value} {σ : am_H} {Q : Option Value → am_H → Prop} {x : Nat} : ax k_M_keepPut 14 [some (.ref x), a1, a2] st σ Q = ax k_M_keepPut 15 [some (.ref x), a1, a2] (.ref x :: st) σ Q := ru_loc (q := (_, _)) f_M_keepPut_14 rfl rfl rfl
theorem f_M_keepPut_15 : am_cd k_M_keepPut 15 = some (none, .getfield 165, (11, 2, 919, 0, 0, .null)) := rfl
theorem s_M_keepPut_15 {ls : am_L} {st : List Value} {σ : am_H} {Q : Option Value → am_H → Prop} {a : Nat} : ax k_M_keepPut 15 ls (.ref a :: st) σ Q = ax_f (am_fld σ a 11 2) (fun v => ax k_M_keepPut 18 ls (v :: st) σ Q) := ru_getf f_M_keepPut_15 rfl
theorem f_M_keepPut_18 : am_cd k_M_keepPut 18 = some (none, .iload_n 2, (0, 0, 0, 0, 0, .null)) := rfl
theorem s_M_keepPut_18 {a0 a1 : Option Value} {st : List Value} {σ : am_H} {Q : Option Value → am_H → Prop} {x : Int32} : ax k_M_keepPut 18 [a0, a1, some (.int x)] st σ Q = ax k_M_keepPut 19 [a0, a1, some (.int x)] (.int x :: st) σ Q := ru_loc (q := (_, _)) f_M_keepPut_18 rfl rfl rfl
theorem f_M_keepPut_19 : am_cd k_M_keepPut 19 = some (none, .iastore, (0, 0, 0, 0, 0, .null)) := rfl
theorem s_M_keepPut_19 {ls : am_L} {st : List Value} {σ : am_H} {Q : Option Value → am_H → Prop} {a : Nat} {j x : Int32} : ax k_M_keepPut 19 ls (.int x :: .int j :: .ref a :: st) σ Q = ax_f (am_j σ a) (fun q => q.1 = 0 ∧ am_ix j q.2.1 ∧ a < am_top ∧ ax k_M_keepPut 20 ls st (am_set σ a (am_ia 0 q.2.1 (upd q.2.2 j.toNatClampNeg x))) Q) := rv_iast f_M_keepPut_19 rfl
theorem f_M_keepPut_20 : am_cd k_M_keepPut 20 = some (none, .aload_n 0, (0, 0, 0, 0, 0, .null)) := rfl
theorem s_M_keepPut_20 {a1 a2 : Option Value} {st : List Value} {σ : am_H} {Q : Option Value → am_H → Prop} {x : Nat} : ax k_M_keepPut 20 [some (.ref x), a1, a2] st σ Q = ax k_M_keepPut 21 [some (.ref x), a1, a2] (.ref x :: st) σ Q := ru_loc (q := (_, _)) f_M_keepPut_20 rfl rfl rfl
theorem f_M_keepPut_21 : am_cd k_M_keepPut 21 = some (none, .getfield 16, (11, 6, 923, 0, 3, .null)) := rfl
theorem s_M_keepPut_21 {ls : am_L} {st : List Value} {σ : am_H} {Q : Option Value → am_H → Prop} {a : Nat} : ax k_M_keepPut 21 ls (.ref a :: st) σ Q = ax_f (am_fld σ a 11 6) (fun v => ax k_M_keepPut 24 ls (v :: st) σ Q) := ru_getf f_M_keepPut_21 rfl
theorem f_M_keepPut_24 : am_cd k_M_keepPut 24 = some (none, .aload_n 0, (0, 0, 0, 0, 0, .null)) := rfl
theorem s_M_keepPut_24 {a1 a2 : Option Value} {st : List Value} {σ : am_H} {Q : Option Value → am_H → Prop} {x : Nat} : ax k_M_keepPut 24 [some (.ref x), a1, a2] st σ Q = ax k_M_keepPut 25 [some (.ref x), a1, a2] (.ref x :: st) σ Q := ru_loc (q := (_, _)) f_M_keepPut_24 rfl rfl rfl
theorem f_M_keepPut_25 : am_cd k_M_keepPut 25 = some (none, .getfield 165, (11, 2, 919, 0, 0, .null)) := rfl
theorem s_M_keepPut_25 {ls : am_L} {st : List Value} {σ : am_H} {Q : Option Value → am_H → Prop} {a : Nat} : ax k_M_keepPut 25 ls (.ref a :: st) σ Q = ax_f (am_fld σ a 11 2) (fun v => ax k_M_keepPut 28 ls (v :: st) σ Q) := ru_getf f_M_keepPut_25 rfl
theorem f_M_keepPut_28 : am_cd k_M_keepPut 28 = some (none, .aload_n 0, (0, 0, 0, 0, 0, .null)) := rfl
theorem s_M_keepPut_28 {a1 a2 : Option Value} {st : List Value} {σ : am_H} {Q : Option Value → am_H → Prop} {x : Nat} : ax k_M_keepPut 28 [some (.ref x), a1, a2] st σ Q = ax k_M_keepPut 29 [some (.ref x), a1, a2] (.ref x :: st) σ Q := ru_loc (q := (_, _)) f_M_keepPut_28 rfl rfl rfl
theorem f_M_keepPut_29 : am_cd k_M_keepPut 29 = some (none, .getfield 161, (11, 0, 917, 0, 0, .null)) := rfl
theorem s_M_keepPut_29 {ls : am_L} {st : List Value} {σ : am_H} {Q : Option Value → am_H → Prop} {a : Nat} : ax k_M_keepPut 29 ls (.ref a :: st) σ Q = ax_f (am_fld σ a 11 0) (fun v => ax k_M_keepPut 32 ls (v :: st) σ Q) := ru_getf f_M_keepPut_29 rfl
theorem f_M_keepPut_32 : am_cd k_M_keepPut 32 = some (none, .iastore, (0, 0, 0, 0, 0, .null)) := rfl
theorem s_M_keepPut_32 {ls : am_L} {st : List Value} {σ : am_H} {Q : Option Value → am_H → Prop} {a : Nat} {j x : Int32} : ax k_M_keepPut 32 ls (.int x :: .int j :: .ref a :: st) σ Q = ax_f (am_j σ a) (fun q => q.1 = 0 ∧ am_ix j q.2.1 ∧ a < am_top ∧ ax k_M_keepPut 33 ls st (am_set σ a (am_ia 0 q.2.1 (upd q.2.2 j.toNatClampNeg x))) Q) := rv_iast f_M_keepPut_32 rfl
theorem f_M_keepPut_33 : am_cd k_M_keepPut 33 = some (none, .aload_n 0, (0, 0, 0, 0, 0, .null)) := rfl
theorem s_M_keepPut_33 {a1 a2 : Option Value} {st : List Value} {σ : am_H} {Q : Option Value → am_H → Prop} {x : Nat} : ax k_M_keepPut 33 [some (.ref x), a1, a2] st σ Q = ax k_M_keepPut 34 [some (.ref x), a1, a2] (.ref x :: st) σ Q := ru_loc (q := (_, _)) f_M_keepPut_33 rfl rfl rfl
theorem f_M_keepPut_34 : am_cd k_M_keepPut 34 = some (none, .dup, (0, 0, 0, 0, 0, .null)) := rfl
theorem s_M_keepPut_34 {ls : am_L} {st : List Value} {σ : am_H} {Q : Option Value → am_H → Prop} {a : Nat} : ax k_M_keepPut 34 ls (.ref a :: st) σ Q = ax k_M_keepPut 35 ls (.ref a :: .ref a :: st) σ Q := ru_pure f_M_keepPut_34 rfl rfl
theorem f_M_keepPut_35 : am_cd k_M_keepPut 35 = some (none, .getfield 165, (11, 2, 919, 0, 0, .null)) := rfl
theorem s_M_keepPut_35 {ls : am_L} {st : List Value} {σ : am_H} {Q : Option Value → am_H → Prop} {a : Nat} : ax k_M_keepPut 35 ls (.ref a :: st) σ Q = ax_f (am_fld σ a 11 2) (fun v => ax k_M_keepPut 38 ls (v :: st) σ Q) := ru_getf f_M_keepPut_35 rfl
theorem f_M_keepPut_38 : am_cd k_M_keepPut 38 = some (none, .iconst 1, (0, 0, 0, 0, 0, .null)) := rfl
theorem s_M_keepPut_38 {ls : am_L} {st : List Value} {σ : am_H} {Q : Option Value → am_H → Prop} : ax k_M_keepPut 38 ls st σ Q = ax k_M_keepPut 39 ls (.int 1 :: st) σ Q := ru_iconst f_M_keepPut_38 (by decide +kernel) rfl
theorem f_M_keepPut_39 : am_cd k_M_keepPut 39 = some (none, .iadd, (0, 0, 0, 0, 0, .null)) := rfl
theorem s_M_keepPut_39 {ls : am_L} {st : List Value} {σ : am_H} {Q : Option Value → am_H → Prop} {x y : Int32} : ax k_M_keepPut 39 ls (.int y :: .int x :: st) σ Q = ax k_M_keepPut 40 ls (.int (x + y) :: st) σ Q := ru_pure f_M_keepPut_39 rfl rfl
theorem f_M_keepPut_40 : am_cd k_M_keepPut 40 = some (none, .putfield 165, (11, 2, 919, 0, 0, .null)) := rfl
theorem s_M_keepPut_40 {ls : am_L} {st : List Value} {σ : am_H} {Q : Option Value → am_H → Prop} {a : Nat} {v : Value} : ax k_M_keepPut 40 ls (v :: .ref a :: st) σ Q = ax_f (am_fld σ a 11 2) (fun _ => a < am_top ∧ am_okv 0 v = true ∧ ax k_M_keepPut 43 ls st (am_put σ a 2 v) Q) := ru_putf f_M_keepPut_40 rfl
theorem f_M_keepPut_43 : am_cd k_M_keepPut 43 = some (none, .return_, (0, 0, 0, 0, 0, .null)) := rfl
theorem s_M_keepPut_43 {ls : am_L} {σ : am_H} {Q : Option Value → am_H → Prop} : ax k_M_keepPut 43 ls ([]) σ Q = Q none σ := ru_ret f_M_keepPut_43 rfl rfl rfl rfl rfl rfl rfl
theorem f_M_liesIn_0 : am_cd k_M_liesIn 0 = some ((some .int), .iconst (-1), (0, 0, 0, 0, 0, .null)) := rfl
theorem s_M_liesIn_0 {ls : am_L} {st : List Value} {σ : am_H} {Q : Option Value → am_H → Prop} : ax k_M_liesIn 0 ls st σ Q = ax k_M_liesIn 1 ls (.int (-1) :: st) σ Q := ru_iconst f_M_liesIn_0 (by decide +kernel) rfl
theorem f_M_liesIn_1 : am_cd k_M_liesIn 1 = some ((some .int), .istore_n 3, (0, 0, 0, 0, 0, .null)) := rfl
theorem s_M_liesIn_1 {a0 a1 a2 a3 a4 : Option Value} {st : List Value} {σ : am_H} {Q : Option Value → am_H → Prop} {x : Int32} (hc : am_c2 a2 = false) : ax k_M_liesIn 1 [a0, a1, a2, a3, a4] (.int x :: st) σ Q = ax k_M_liesIn 2 [a0, a1, a2, some (.int x), a4] st σ Q := ru_istore_n f_M_liesIn_1 (Nat.le_of_ble_eq_true rfl) (ru_st1 (Nat.le_of_ble_eq_true rfl) (am_clr_c2 hc rfl) rfl) rfl
theorem f_M_liesIn_2 : am_cd k_M_liesIn 2 = some ((some .int), .iconst 0, (0, 0, 0, 0, 0, .null)) := rfl
theorem s_M_liesIn_2 {ls : am_L} {st : List Value} {σ : am_H} {Q : Option Value → am_H → Prop} : ax k_M_liesIn 2 ls st σ Q = ax k_M_liesIn 3 ls (.int 0 :: st) σ Q := ru_iconst f_M_liesIn_2 (by decide +kernel) rfl
theorem f_M_liesIn_3 : am_cd k_M_liesIn 3 = some ((some .int), .istore 4, (0, 0, 0, 0, 0, .null)) := rfl
theorem s_M_liesIn_3 {a0 a1 a2 a3 a4 : Option Value} {st : List Value} {σ : am_H} {Q : Option Value → am_H → Prop} {x : Int32} (hc : am_c2 a3 = false) : ax k_M_liesIn 3 [a0, a1, a2, a3, a4] (.int x :: st) σ Q = ax k_M_liesIn 5 [a0, a1, a2, a3, some (.int x)] st σ Q := ru_istore f_M_liesIn_3 (Nat.le_of_ble_eq_true rfl) (ru_st1 (Nat.le_of_ble_eq_true rfl) (am_clr_c2 hc rfl) rfl) rfl
theorem f_M_liesIn_5 : am_cd k_M_liesIn 5 = some ((some .int), .iload 4, (0, 0, 0, 0, 0, .null)) := rfl
theorem s_M_liesIn_5 {a0 a1 a2 a3 : Option Value} {st : List Value} {σ : am_H} {Q : Option Value → am_H → Prop} {x : Int32} : ax k_M_liesIn 5 [a0, a1, a2, a3, some (.int x)] st σ Q = ax k_M_liesIn 7 [a0, a1, a2, a3, some (.int x)] (.int x :: st) σ Q := ru_loc (q := (_, _)) f_M_liesIn_5 rfl rfl rfl
theorem f_M_liesIn_7 : am_cd k_M_liesIn 7 = some ((some .int), .aload_n 0, (0, 0, 0, 0, 0, .null)) := rfl
theorem s_M_liesIn_7 {a1 a2 a3 a4 : Option Value} {st : List Value} {σ : am_H} {Q : Option Value → am_H → Prop} {x : Nat} : ax k_M_liesIn 7 [some (.ref x), a1, a2, a3, a4] st σ Q = ax k_M_liesIn 8 [some (.ref x), a1, a2, a3, a4] (.ref x :: st) σ Q := ru_loc (q := (_, _)) f_M_liesIn_7 rfl rfl rfl
theorem f_M_liesIn_8 : am_cd k_M_liesIn 8 = some ((some .int), .getfield 165, (11, 2, 919, 0, 0, .null)) := rfl
theorem s_M_liesIn_8 {ls : am_L} {st : List Value} {σ : am_H} {Q : Option Value → am_H → Prop} {a : Nat} : ax k_M_liesIn 8 ls (.ref a :: st) σ Q = ax_f (am_fld σ a 11 2) (fun v => ax k_M_liesIn 11 ls (v :: st) σ Q) := ru_getf f_M_liesIn_8 rfl
theorem f_M_liesIn_11 : am_cd k_M_liesIn 11 = some ((some .int), .if_icmp .ge 39, (50, 0, 0, 0, 0, .null)) := rfl
theorem s_M_liesIn_11 {ls : am_L} {st : List Value} {σ : am_H} {Q : Option Value → am_H → Prop} {x y : Int32} : ax k_M_liesIn 11 ls (.int y :: .int x :: st) σ Q = (if x < y then ax k_M_liesIn 14 ls st σ Q else ax k_M_liesIn 50 ls st σ Q) := (ru_icmp f_M_liesIn_11 rfl).trans (ru_i_ge _ _ _ _)
theorem f_M_liesIn_14 : am_cd k_M_liesIn 14 = some ((some .int), .aload_n 0, (0, 0, 0, 0, 0, .null)) := rfl
theorem s_M_liesIn_14 {a1 a2 a3 a4 : Option Value} {st : List Value} {σ : am_H} {Q : Option Value → am_H → Prop} {x : Nat} : ax k_M_liesIn 14 [some (.ref x), a1, a2, a3, a4] st σ Q = ax k_M_liesIn 15 [some (.ref x), a1, a2, a3, a4] (.ref x :: st) σ Q := ru_loc (q := (_, _)) f_M_liesIn_14 rfl rfl rfl
theorem f_M_liesIn_15 : am_cd k_M_liesIn 15 = some ((some .int), .getfield 7, (11, 4, 921, 0, 3, .null)) := rfl
theorem s_M_liesIn_15 {ls : am_L} {st : List Value} {σ : am_H} {Q : Option Value → am_H → Prop} {a : Nat} : ax k_M_liesIn 15 ls (.ref a :: st) σ Q = ax_f (am_fld σ a 11 4) (fun v => ax k_M_liesIn 18 ls (v :: st) σ Q) := ru_getf f_M_liesIn_15 rfl
theorem f_M_liesIn_18 : am_cd k_M_liesIn 18 = some ((some .int), .iload 4, (0, 0, 0, 0, 0, .null)) := rfl
theorem s_M_liesIn_18 {a0 a1 a2 a3 : Option Value} {st : List Value} {σ : am_H} {Q : Option Value → am_H → Prop} {x : Int32} : ax k_M_liesIn 18 [a0, a1, a2, a3, some (.int x)] st σ Q = ax k_M_liesIn 20 [a0, a1, a2, a3, some (.int x)] (.int x :: st) σ Q := ru_loc (q := (_, _)) f_M_liesIn_18 rfl rfl rfl
theorem f_M_liesIn_20 : am_cd k_M_liesIn 20 = some ((some .int), .iaload, (0, 0, 0, 0, 0, .null)) := rfl
theorem s_M_liesIn_20 {ls : am_L} {st : List Value} {σ : am_H} {Q : Option Value → am_H → Prop} {a : Nat} {j : Int32} : ax k_M_liesIn 20 ls (.int j :: .ref a :: st) σ Q = ax_f (am_j σ a) (fun q => q.1 = 0 ∧ am_ix j q.2.1 ∧ ax k_M_liesIn 21 ls (.int (q.2.2 j.toNatClampNeg) :: st) σ Q) := rv_iald f_M_liesIn_20 rfl
theorem f_M_liesIn_21 : am_cd k_M_liesIn 21 = some ((some .int), .iload_n 1, (0, 0, 0, 0, 0, .null)) := rfl
theorem s_M_liesIn_21 {a0 a2 a3 a4 : Option Value} {st : List Value} {σ : am_H} {Q : Option Value → am_H → Prop} {x : Int32} : ax k_M_liesIn 21 [a0, some (.int x), a2, a3, a4] st σ Q = ax k_M_liesIn 22 [a0, some (.int x), a2, a3, a4] (.int x :: st) σ Q := ru_loc (q := (_, _)) f_M_liesIn_21 rfl rfl rfl
theorem f_M_liesIn_22 : am_cd k_M_liesIn 22 = some ((some .int), .if_icmp .ne 22, (44, 0, 0, 0, 0, .null)) := rfl
theorem s_M_liesIn_22 {ls : am_L} {st : List Value} {σ : am_H} {Q : Option Value → am_H → Prop} {x y : Int32} : ax k_M_liesIn 22 ls (.int y :: .int x :: st) σ Q = (if x = y then ax k_M_liesIn 25 ls st σ Q else ax k_M_liesIn 44 ls st σ Q) := (ru_icmp f_M_liesIn_22 rfl).trans (ru_i_ne _ _ _ _)
theorem f_M_liesIn_25 : am_cd k_M_liesIn 25 = some ((some .int), .aload_n 0, (0, 0, 0, 0, 0, .null)) := rfl
theorem s_M_liesIn_25 {a1 a2 a3 a4 : Option Value} {st : List Value} {σ : am_H} {Q : Option Value → am_H → Prop} {x : Nat} : ax k_M_liesIn 25 [some (.ref x), a1, a2, a3, a4] st σ Q = ax k_M_liesIn 26 [some (.ref x), a1, a2, a3, a4] (.ref x :: st) σ Q := ru_loc (q := (_, _)) f_M_liesIn_25 rfl rfl rfl
theorem f_M_liesIn_26 : am_cd k_M_liesIn 26 = some ((some .int), .getfield 16, (11, 6, 923, 0, 3, .null)) := rfl
theorem s_M_liesIn_26 {ls : am_L} {st : List Value} {σ : am_H} {Q : Option Value → am_H → Prop} {a : Nat} : ax k_M_liesIn 26 ls (.ref a :: st) σ Q = ax_f (am_fld σ a 11 6) (fun v => ax k_M_liesIn 29 ls (v :: st) σ Q) := ru_getf f_M_liesIn_26 rfl
theorem f_M_liesIn_29 : am_cd k_M_liesIn 29 = some ((some .int), .iload 4, (0, 0, 0, 0, 0, .null)) := rfl
theorem s_M_liesIn_29 {a0 a1 a2 a3 : Option Value} {st : List Value} {σ : am_H} {Q : Option Value → am_H → Prop} {x : Int32} : ax k_M_liesIn 29 [a0, a1, a2, a3, some (.int x)] st σ Q = ax k_M_liesIn 31 [a0, a1, a2, a3, some (.int x)] (.int x :: st) σ Q := ru_loc (q := (_, _)) f_M_liesIn_29 rfl rfl rfl
theorem f_M_liesIn_31 : am_cd k_M_liesIn 31 = some ((some .int), .iaload, (0, 0, 0, 0, 0, .null)) := rfl
theorem s_M_liesIn_31 {ls : am_L} {st : List Value} {σ : am_H} {Q : Option Value → am_H → Prop} {a : Nat} {j : Int32} : ax k_M_liesIn 31 ls (.int j :: .ref a :: st) σ Q = ax_f (am_j σ a) (fun q => q.1 = 0 ∧ am_ix j q.2.1 ∧ ax k_M_liesIn 32 ls (.int (q.2.2 j.toNatClampNeg) :: st) σ Q) := rv_iald f_M_liesIn_31 rfl
theorem f_M_liesIn_32 : am_cd k_M_liesIn 32 = some ((some .int), .iload_n 2, (0, 0, 0, 0, 0, .null)) := rfl
theorem s_M_liesIn_32 {a0 a1 a3 a4 : Option Value} {st : List Value} {σ : am_H} {Q : Option Value → am_H → Prop} {x : Int32} : ax k_M_liesIn 32 [a0, a1, some (.int x), a3, a4] st σ Q = ax k_M_liesIn 33 [a0, a1, some (.int x), a3, a4] (.int x :: st) σ Q := ru_loc (q := (_, _)) f_M_liesIn_32 rfl rfl rfl
theorem f_M_liesIn_33 : am_cd k_M_liesIn 33 = some ((some .int), .if_icmp .gt 11, (44, 0, 0, 0, 0, .null)) := rfl
theorem s_M_liesIn_33 {ls : am_L} {st : List Value} {σ : am_H} {Q : Option Value → am_H → Prop} {x y : Int32} : ax k_M_liesIn 33 ls (.int y :: .int x :: st) σ Q = (if y < x then ax k_M_liesIn 44 ls st σ Q else ax k_M_liesIn 36 ls st σ Q) := (ru_icmp f_M_liesIn_33 rfl).trans (ru_i_gt _ _ _ _)
theorem f_M_liesIn_36 : am_cd k_M_liesIn 36 = some ((some .int), .aload_n 0, (0, 0, 0, 0, 0, .null)) := rfl
theorem s_M_liesIn_36 {a1 a2 a3 a4 : Option Value} {st : List Value} {σ : am_H} {Q : Option Value → am_H → Prop} {x : Nat} : ax k_M_liesIn 36 [some (.ref x), a1, a2, a3, a4] st σ Q = ax k_M_liesIn 37 [some (.ref x), a1, a2, a3, a4] (.ref x :: st) σ Q := ru_loc (q := (_, _)) f_M_liesIn_36 rfl rfl rfl
theorem f_M_liesIn_37 : am_cd k_M_liesIn 37 = some ((some .int), .getfield 13, (11, 5, 922, 0, 3, .null)) := rfl
theorem s_M_liesIn_37 {ls : am_L} {st : List Value} {σ : am_H} {Q : Option Value → am_H → Prop} {a : Nat} : ax k_M_liesIn 37 ls (.ref a :: st) σ Q = ax_f (am_fld σ a 11 5) (fun v => ax k_M_liesIn 40 ls (v :: st) σ Q) := ru_getf f_M_liesIn_37 rfl
theorem f_M_liesIn_40 : am_cd k_M_liesIn 40 = some ((some .int), .iload 4, (0, 0, 0, 0, 0, .null)) := rfl
theorem s_M_liesIn_40 {a0 a1 a2 a3 : Option Value} {st : List Value} {σ : am_H} {Q : Option Value → am_H → Prop} {x : Int32} : ax k_M_liesIn 40 [a0, a1, a2, a3, some (.int x)] st σ Q = ax k_M_liesIn 42 [a0, a1, a2, a3, some (.int x)] (.int x :: st) σ Q := ru_loc (q := (_, _)) f_M_liesIn_40 rfl rfl rfl
theorem f_M_liesIn_42 : am_cd k_M_liesIn 42 = some ((some .int), .iaload, (0, 0, 0, 0, 0, .null)) := rfl
theorem s_M_liesIn_42 {ls : am_L} {st : List Value} {σ : am_H} {Q : Option Value → am_H → Prop} {a : Nat} {j : Int32} : ax k_M_liesIn 42 ls (.int j :: .ref a :: st) σ Q = ax_f (am_j σ a) (fun q => q.1 = 0 ∧ am_ix j q.2.1 ∧ ax k_M_liesIn 43 ls (.int (q.2.2 j.toNatClampNeg) :: st) σ Q) := rv_iald f_M_liesIn_42 rfl
theorem f_M_liesIn_43 : am_cd k_M_liesIn 43 = some ((some .int), .istore_n 3, (0, 0, 0, 0, 0, .null)) := rfl
theorem s_M_liesIn_43 {a0 a1 a2 a3 a4 : Option Value} {st : List Value} {σ : am_H} {Q : Option Value → am_H → Prop} {x : Int32} (hc : am_c2 a2 = false) : ax k_M_liesIn 43 [a0, a1, a2, a3, a4] (.int x :: st) σ Q = ax k_M_liesIn 44 [a0, a1, a2, some (.int x), a4] st σ Q := ru_istore_n f_M_liesIn_43 (Nat.le_of_ble_eq_true rfl) (ru_st1 (Nat.le_of_ble_eq_true rfl) (am_clr_c2 hc rfl) rfl) rfl
theorem f_M_liesIn_44 : am_cd k_M_liesIn 44 = some ((some .int), .iinc 4 1, (0, 0, 0, 0, 0, .null)) := rfl
theorem s_M_liesIn_44 {a0 a1 a2 a3 : Option Value} {st : List Value} {σ : am_H} {Q : Option Value → am_H → Prop} {x : Int32} (hc : am_c2 a3 = false) : ax k_M_liesIn 44 [a0, a1, a2, a3, some (.int x)] st σ Q = ax k_M_liesIn 47 [a0, a1, a2, a3, some (.int (x + 1))] st σ Q := ru_iinc f_M_liesIn_44 rfl (Nat.le_of_ble_eq_true rfl) (by decide +kernel) (ru_st1 (Nat.le_of_ble_eq_true rfl) (am_clr_c2 hc rfl) rfl) rfl
theorem f_M_liesIn_47 : am_cd k_M_liesIn 47 = some ((some .int), .goto (-42), (5, 0, 0, 0, 0, .null)) := rfl
theorem s_M_liesIn_47 {ls : am_L} {st : List Value} {σ : am_H} {Q : Option Value → am_H → Prop} : ax k_M_liesIn 47 ls st σ Q = ax k_M_liesIn 5 ls st σ Q := ru_goto f_M_liesIn_47
theorem f_M_liesIn_50 : am_cd k_M_liesIn 50 = some ((some .int), .iload_n 3, (0, 0, 0, 0, 0, .null)) := rfl
theorem s_M_liesIn_50 {a0 a1 a2 a4 : Option Value} {st : List Value} {σ : am_H} {Q : Option Value → am_H → Prop} {x : Int32} : ax k_M_liesIn 50 [a0, a1, a2, some (.int x), a4] st σ Q = ax k_M_liesIn 51 [a0, a1, a2, some (.int x), a4] (.int x :: st) σ Q := ru_loc (q := (_, _)) f_M_liesIn_50 rfl rfl rfl
theorem f_M_liesIn_51 : am_cd k_M_liesIn 51 = some ((some .int), .ireturn, (0, 0, 0, 0, 0, .null)) := rfl
theorem s_M_liesIn_51 {ls : am_L} {σ : am_H} {Q : Option Value → am_H → Prop} {v : Int32} : ax k_M_liesIn 51 ls [.int v] σ Q = Q (some (.int v)) σ := ru_iretI f_M_liesIn_51
theorem f_M_isOf_0 : am_cd k_M_isOf 0 = some ((some .boolean), .iload_n 1, (0, 0, 0, 0, 0, .null)) := rfl
theorem s_M_isOf_0 {a0 a2 a3 a4 : Option Value} {st : List Value} {σ : am_H} {Q : Option Value → am_H → Prop} {x : Int32} : ax k_M_isOf 0 [a0, some (.int x), a2, a3, a4] st σ Q = ax k_M_isOf 1 [a0, some (.int x), a2, a3, a4] (.int x :: st) σ Q := ru_loc (q := (_, _)) f_M_isOf_0 rfl rfl rfl
theorem f_M_isOf_1 : am_cd k_M_isOf 1 = some ((some .boolean), .istore 4, (0, 0, 0, 0, 0, .null)) := rfl
theorem s_M_isOf_1 {a0 a1 a2 a3 a4 : Option Value} {st : List Value} {σ : am_H} {Q : Option Value → am_H → Prop} {x : Int32} (hc : am_c2 a3 = false) : ax k_M_isOf 1 [a0, a1, a2, a3, a4] (.int x :: st) σ Q = ax k_M_isOf 3 [a0, a1, a2, a3, some (.int x)] st σ Q := ru_istore f_M_isOf_1 (Nat.le_of_ble_eq_true rfl) (ru_st1 (Nat.le_of_ble_eq_true rfl) (am_clr_c2 hc rfl) rfl) rfl
theorem f_M_isOf_3 : am_cd k_M_isOf 3 = some ((some .boolean), .iload 4, (0, 0, 0, 0, 0, .null)) := rfl
theorem s_M_isOf_3 {a0 a1 a2 a3 : Option Value} {st : List Value} {σ : am_H} {Q : Option Value → am_H → Prop} {x : Int32} : ax k_M_isOf 3 [a0, a1, a2, a3, some (.int x)] st σ Q = ax k_M_isOf 5 [a0, a1, a2, a3, some (.int x)] (.int x :: st) σ Q := ru_loc (q := (_, _)) f_M_isOf_3 rfl rfl rfl
theorem f_M_isOf_5 : am_cd k_M_isOf 5 = some ((some .boolean), .ifCond .lt 21, (26, 0, 0, 0, 0, .null)) := rfl
theorem s_M_isOf_5 {ls : am_L} {st : List Value} {σ : am_H} {Q : Option Value → am_H → Prop} {x : Int32} : ax k_M_isOf 5 ls (.int x :: st) σ Q = (if x < 0 then ax k_M_isOf 26 ls st σ Q else ax k_M_isOf 8 ls st σ Q) := (ru_if f_M_isOf_5 rfl).trans (ru_i_lt _ _ _ _)
theorem f_M_isOf_8 : am_cd k_M_isOf 8 = some ((some .boolean), .iload 4, (0, 0, 0, 0, 0, .null)) := rfl
theorem s_M_isOf_8 {a0 a1 a2 a3 : Option Value} {st : List Value} {σ : am_H} {Q : Option Value → am_H → Prop} {x : Int32} : ax k_M_isOf 8 [a0, a1, a2, a3, some (.int x)] st σ Q = ax k_M_isOf 10 [a0, a1, a2, a3, some (.int x)] (.int x :: st) σ Q := ru_loc (q := (_, _)) f_M_isOf_8 rfl rfl rfl
theorem f_M_isOf_10 : am_cd k_M_isOf 10 = some ((some .boolean), .iload_n 2, (0, 0, 0, 0, 0, .null)) := rfl
theorem s_M_isOf_10 {a0 a1 a3 a4 : Option Value} {st : List Value} {σ : am_H} {Q : Option Value → am_H → Prop} {x : Int32} : ax k_M_isOf 10 [a0, a1, some (.int x), a3, a4] st σ Q = ax k_M_isOf 11 [a0, a1, some (.int x), a3, a4] (.int x :: st) σ Q := ru_loc (q := (_, _)) f_M_isOf_10 rfl rfl rfl
theorem f_M_isOf_11 : am_cd k_M_isOf 11 = some ((some .boolean), .if_icmp .eq 15, (26, 0, 0, 0, 0, .null)) := rfl
theorem s_M_isOf_11 {ls : am_L} {st : List Value} {σ : am_H} {Q : Option Value → am_H → Prop} {x y : Int32} : ax k_M_isOf 11 ls (.int y :: .int x :: st) σ Q = (if x = y then ax k_M_isOf 26 ls st σ Q else ax k_M_isOf 14 ls st σ Q) := (ru_icmp f_M_isOf_11 rfl).trans (ru_i_eq _ _ _ _)
theorem f_M_isOf_14 : am_cd k_M_isOf 14 = some ((some .boolean), .aload_n 0, (0, 0, 0, 0, 0, .null)) := rfl
theorem s_M_isOf_14 {a1 a2 a3 a4 : Option Value} {st : List Value} {σ : am_H} {Q : Option Value → am_H → Prop} {x : Nat} : ax k_M_isOf 14 [some (.ref x), a1, a2, a3, a4] st σ Q = ax k_M_isOf 15 [some (.ref x), a1, a2, a3, a4] (.ref x :: st) σ Q := ru_loc (q := (_, _)) f_M_isOf_14 rfl rfl rfl
theorem f_M_isOf_15 : am_cd k_M_isOf 15 = some ((some .boolean), .iload 4, (0, 0, 0, 0, 0, .null)) := rfl
theorem s_M_isOf_15 {a0 a1 a2 a3 : Option Value} {st : List Value} {σ : am_H} {Q : Option Value → am_H → Prop} {x : Int32} : ax k_M_isOf 15 [a0, a1, a2, a3, some (.int x)] st σ Q = ax k_M_isOf 17 [a0, a1, a2, a3, some (.int x)] (.int x :: st) σ Q := ru_loc (q := (_, _)) f_M_isOf_15 rfl rfl rfl
theorem f_M_isOf_17 : am_cd k_M_isOf 17 = some ((some .boolean), .iload_n 3, (0, 0, 0, 0, 0, .null)) := rfl
theorem s_M_isOf_17 {a0 a1 a2 a4 : Option Value} {st : List Value} {σ : am_H} {Q : Option Value → am_H → Prop} {x : Int32} : ax k_M_isOf 17 [a0, a1, a2, some (.int x), a4] st σ Q = ax k_M_isOf 18 [a0, a1, a2, some (.int x), a4] (.int x :: st) σ Q := ru_loc (q := (_, _)) f_M_isOf_17 rfl rfl rfl
theorem f_M_isOf_18 : am_cd k_M_isOf 18 = some ((some .boolean), .invokevirtual 168, (119, 2, 1133, 0, 11, .null)) := rfl
theorem s_M_isOf_18 {ls : am_L} {st : List Value} {σ : am_H} {Q : Option Value → am_H → Prop} {p0 : Int32} {p1 : Int32} {b : Nat} (hi : am_is σ b 11) (h8 : am_s8 st) : ax k_M_isOf 18 ls (.int p1 :: .int p0 :: .ref b :: st) σ Q = ax k_M_liesIn 0 [some (.ref b), some (.int p0), some (.int p1), none, none] [] σ (ax_k k_M_isOf 21 ls st Q) := ru_vir (M' := rk_M_liesIn) f_M_isOf_18 rfl rfl rfl rfl hi h8 rfl rfl rfl rfl rfl
theorem f_M_isOf_21 : am_cd k_M_isOf 21 = some ((some .boolean), .istore 4, (0, 0, 0, 0, 0, .null)) := rfl
theorem s_M_isOf_21 {a0 a1 a2 a3 a4 : Option Value} {st : List Value} {σ : am_H} {Q : Option Value → am_H → Prop} {x : Int32} (hc : am_c2 a3 = false) : ax k_M_isOf 21 [a0, a1, a2, a3, a4] (.int x :: st) σ Q = ax k_M_isOf 23 [a0, a1, a2, a3, some (.int x)] st σ Q := ru_istore f_M_isOf_21 (Nat.le_of_ble_eq_true rfl) (ru_st1 (Nat.le_of_ble_eq_true rfl) (am_clr_c2 hc rfl) rfl) rfl
theorem f_M_isOf_23 : am_cd k_M_isOf 23 = some ((some .boolean), .goto (-20), (3, 0, 0, 0, 0, .null)) := rfl
theorem s_M_isOf_23 {ls : am_L} {st : List Value} {σ : am_H} {Q : Option Value → am_H → Prop} : ax k_M_isOf 23 ls st σ Q = ax k_M_isOf 3 ls st σ Q := ru_goto f_M_isOf_23
theorem f_M_isOf_26 : am_cd k_M_isOf 26 = some ((some .boolean), .iload 4, (0, 0, 0, 0, 0, .null)) := rfl
theorem s_M_isOf_26 {a0 a1 a2 a3 : Option Value} {st : List Value} {σ : am_H} {Q : Option Value → am_H → Prop} {x : Int32} : ax k_M_isOf 26 [a0, a1, a2, a3, some (.int x)] st σ Q = ax k_M_isOf 28 [a0, a1, a2, a3, some (.int x)] (.int x :: st) σ Q := ru_loc (q := (_, _)) f_M_isOf_26 rfl rfl rfl
theorem f_M_isOf_28 : am_cd k_M_isOf 28 = some ((some .boolean), .iload_n 2, (0, 0, 0, 0, 0, .null)) := rfl
theorem s_M_isOf_28 {a0 a1 a3 a4 : Option Value} {st : List Value} {σ : am_H} {Q : Option Value → am_H → Prop} {x : Int32} : ax k_M_isOf 28 [a0, a1, some (.int x), a3, a4] st σ Q = ax k_M_isOf 29 [a0, a1, some (.int x), a3, a4] (.int x :: st) σ Q := ru_loc (q := (_, _)) f_M_isOf_28 rfl rfl rfl
theorem f_M_isOf_29 : am_cd k_M_isOf 29 = some ((some .boolean), .if_icmp .ne 7, (36, 0, 0, 0, 0, .null)) := rfl
theorem s_M_isOf_29 {ls : am_L} {st : List Value} {σ : am_H} {Q : Option Value → am_H → Prop} {x y : Int32} : ax k_M_isOf 29 ls (.int y :: .int x :: st) σ Q = (if x = y then ax k_M_isOf 32 ls st σ Q else ax k_M_isOf 36 ls st σ Q) := (ru_icmp f_M_isOf_29 rfl).trans (ru_i_ne _ _ _ _)
theorem f_M_isOf_32 : am_cd k_M_isOf 32 = some ((some .boolean), .iconst 1, (0, 0, 0, 0, 0, .null)) := rfl
theorem s_M_isOf_32 {ls : am_L} {st : List Value} {σ : am_H} {Q : Option Value → am_H → Prop} : ax k_M_isOf 32 ls st σ Q = ax k_M_isOf 33 ls (.int 1 :: st) σ Q := ru_iconst f_M_isOf_32 (by decide +kernel) rfl
theorem f_M_isOf_33 : am_cd k_M_isOf 33 = some ((some .boolean), .goto 4, (37, 0, 0, 0, 0, .null)) := rfl
theorem s_M_isOf_33 {ls : am_L} {st : List Value} {σ : am_H} {Q : Option Value → am_H → Prop} : ax k_M_isOf 33 ls st σ Q = ax k_M_isOf 37 ls st σ Q := ru_goto f_M_isOf_33
theorem f_M_isOf_36 : am_cd k_M_isOf 36 = some ((some .boolean), .iconst 0, (0, 0, 0, 0, 0, .null)) := rfl
theorem s_M_isOf_36 {ls : am_L} {st : List Value} {σ : am_H} {Q : Option Value → am_H → Prop} : ax k_M_isOf 36 ls st σ Q = ax k_M_isOf 37 ls (.int 0 :: st) σ Q := ru_iconst f_M_isOf_36 (by decide +kernel) rfl
theorem f_M_isOf_37 : am_cd k_M_isOf 37 = some ((some .boolean), .ireturn, (0, 0, 0, 0, 0, .null)) := rfl
theorem s_M_isOf_37 {ls : am_L} {σ : am_H} {Q : Option Value → am_H → Prop} {v : Int32} : ax k_M_isOf 37 ls ([.int v]) σ Q = (am_nar .boolean v = true ∧ Q (some (.int v)) σ) := ru_iret f_M_isOf_37
theorem f_M_word_0 : am_cd k_M_word 0 = some ((some .int), .iload_n 1, (0, 0, 0, 0, 0, .null)) := rfl
theorem s_M_word_0 {a0 : Option Value} {st : List Value} {σ : am_H} {Q : Option Value → am_H → Prop} {x : Int32} : ax k_M_word 0 [a0, some (.int x)] st σ Q = ax k_M_word 1 [a0, some (.int x)] (.int x :: st) σ Q := ru_loc (q := (_, _)) f_M_word_0 rfl rfl rfl
theorem f_M_word_1 : am_cd k_M_word 1 = some ((some .int), .iconst (-1), (0, 0, 0, 0, 0, .null)) := rfl
theorem s_M_word_1 {ls : am_L} {st : List Value} {σ : am_H} {Q : Option Value → am_H → Prop} : ax k_M_word 1 ls st σ Q = ax k_M_word 2 ls (.int (-1) :: st) σ Q := ru_iconst f_M_word_1 (by decide +kernel) rfl
theorem f_M_word_2 : am_cd k_M_word 2 = some ((some .int), .if_icmp .eq 11, (13, 0, 0, 0, 0, .null)) := rfl
theorem s_M_word_2 {ls : am_L} {st : List Value} {σ : am_H} {Q : Option Value → am_H → Prop} {x y : Int32} : ax k_M_word 2 ls (.int y :: .int x :: st) σ Q = (if x = y then ax k_M_word 13 ls st σ Q else ax k_M_word 5 ls st σ Q) := (ru_icmp f_M_word_2 rfl).trans (ru_i_eq _ _ _ _)
theorem f_M_word_5 : am_cd k_M_word 5 = some ((some .int), .aload_n 0, (0, 0, 0, 0, 0, .null)) := rfl
theorem s_M_word_5 {a1 : Option Value} {st : List Value} {σ : am_H} {Q : Option Value → am_H → Prop} {x : Nat} : ax k_M_word 5 [some (.ref x), a1] st σ Q = ax k_M_word 6 [some (.ref x), a1] (.ref x :: st) σ Q := ru_loc (q := (_, _)) f_M_word_5 rfl rfl rfl
theorem f_M_word_6 : am_cd k_M_word 6 = some ((some .int), .iload_n 1, (0, 0, 0, 0, 0, .null)) := rfl
theorem s_M_word_6 {a0 : Option Value} {st : List Value} {σ : am_H} {Q : Option Value → am_H → Prop} {x : Int32} : ax k_M_word 6 [a0, some (.int x)] st σ Q = ax k_M_word 7 [a0, some (.int x)] (.int x :: st) σ Q := ru_loc (q := (_, _)) f_M_word_6 rfl rfl rfl
theorem f_M_word_7 : am_cd k_M_word 7 = some ((some .int), .invokevirtual 172, (114, 1, 1117, 0, 11, .null)) := rfl
theorem s_M_word_7 {ls : am_L} {st : List Value} {σ : am_H} {Q : Option Value → am_H → Prop} {p0 : Int32} {b : Nat} (hi : am_is σ b 11) (h8 : am_s8 st) : ax k_M_word 7 ls (.int p0 :: .ref b :: st) σ Q = ax k_M_isWord 0 [some (.ref b), some (.int p0)] [] σ (ax_k k_M_word 10 ls st Q) := ru_vir (M' := rk_M_isWord) f_M_word_7 rfl rfl rfl rfl hi h8 rfl rfl rfl rfl rfl
theorem f_M_word_10 : am_cd k_M_word 10 = some ((some .int), .ifCond .eq 12, (22, 0, 0, 0, 0, .null)) := rfl
theorem s_M_word_10 {ls : am_L} {st : List Value} {σ : am_H} {Q : Option Value → am_H → Prop} {x : Int32} : ax k_M_word 10 ls (.int x :: st) σ Q = (if x = 0 then ax k_M_word 22 ls st σ Q else ax k_M_word 13 ls st σ Q) := (ru_if f_M_word_10 rfl).trans (ru_i_eq _ _ _ _)
theorem f_M_word_13 : am_cd k_M_word 13 = some ((some .int), .aload_n 0, (0, 0, 0, 0, 0, .null)) := rfl
theorem s_M_word_13 {a1 : Option Value} {st : List Value} {σ : am_H} {Q : Option Value → am_H → Prop} {x : Nat} : ax k_M_word 13 [some (.ref x), a1] st σ Q = ax k_M_word 14 [some (.ref x), a1] (.ref x :: st) σ Q := ru_loc (q := (_, _)) f_M_word_13 rfl rfl rfl
theorem f_M_word_14 : am_cd k_M_word 14 = some ((some .int), .getfield 151, (11, 1, 918, 0, 0, .null)) := rfl
theorem s_M_word_14 {ls : am_L} {st : List Value} {σ : am_H} {Q : Option Value → am_H → Prop} {a : Nat} : ax k_M_word 14 ls (.ref a :: st) σ Q = ax_f (am_fld σ a 11 1) (fun v => ax k_M_word 17 ls (v :: st) σ Q) := ru_getf f_M_word_14 rfl
theorem f_M_word_17 : am_cd k_M_word 17 = some ((some .int), .bipush 40, (0, 0, 0, 0, 0, .null)) := rfl
theorem s_M_word_17 {ls : am_L} {st : List Value} {σ : am_H} {Q : Option Value → am_H → Prop} : ax k_M_word 17 ls st σ Q = ax k_M_word 19 ls (.int 40 :: st) σ Q := ru_bipush f_M_word_17 (by decide +kernel) rfl
theorem f_M_word_19 : am_cd k_M_word 19 = some ((some .int), .if_icmp .ne 5, (24, 0, 0, 0, 0, .null)) := rfl
theorem s_M_word_19 {ls : am_L} {st : List Value} {σ : am_H} {Q : Option Value → am_H → Prop} {x y : Int32} : ax k_M_word 19 ls (.int y :: .int x :: st) σ Q = (if x = y then ax k_M_word 22 ls st σ Q else ax k_M_word 24 ls st σ Q) := (ru_icmp f_M_word_19 rfl).trans (ru_i_ne _ _ _ _)
theorem f_M_word_22 : am_cd k_M_word 22 = some ((some .int), .iconst (-1), (0, 0, 0, 0, 0, .null)) := rfl
theorem s_M_word_22 {ls : am_L} {st : List Value} {σ : am_H} {Q : Option Value → am_H → Prop} : ax k_M_word 22 ls st σ Q = ax k_M_word 23 ls (.int (-1) :: st) σ Q := ru_iconst f_M_word_22 (by decide +kernel) rfl
theorem f_M_word_23 : am_cd k_M_word 23 = some ((some .int), .ireturn, (0, 0, 0, 0, 0, .null)) := rfl
theorem s_M_word_23 {ls : am_L} {σ : am_H} {Q : Option Value → am_H → Prop} {v : Int32} : ax k_M_word 23 ls [.int v] σ Q = Q (some (.int v)) σ := ru_iretI f_M_word_23
theorem f_M_word_24 : am_cd k_M_word 24 = some ((some .int), .aload_n 0, (0, 0, 0, 0, 0, .null)) := rfl
theorem s_M_word_24 {a1 : Option Value} {st : List Value} {σ : am_H} {Q : Option Value → am_H → Prop} {x : Nat} : ax k_M_word 24 [some (.ref x), a1] st σ Q = ax k_M_word 25 [some (.ref x), a1] (.ref x :: st) σ Q := ru_loc (q := (_, _)) f_M_word_24 rfl rfl rfl
theorem f_M_word_25 : am_cd k_M_word 25 = some ((some .int), .aload_n 0, (0, 0, 0, 0, 0, .null)) := rfl
theorem s_M_word_25 {a1 : Option Value} {st : List Value} {σ : am_H} {Q : Option Value → am_H → Prop} {x : Nat} : ax k_M_word 25 [some (.ref x), a1] st σ Q = ax k_M_word 26 [some (.ref x), a1] (.ref x :: st) σ Q := ru_loc (q := (_, _)) f_M_word_25 rfl rfl rfl
theorem f_M_word_26 : am_cd k_M_word 26 = some ((some .int), .getfield 151, (11, 1, 918, 0, 0, .null)) := rfl
theorem s_M_word_26 {ls : am_L} {st : List Value} {σ : am_H} {Q : Option Value → am_H → Prop} {a : Nat} : ax k_M_word 26 ls (.ref a :: st) σ Q = ax_f (am_fld σ a 11 1) (fun v => ax k_M_word 29 ls (v :: st) σ Q) := ru_getf f_M_word_26 rfl
theorem f_M_word_29 : am_cd k_M_word 29 = some ((some .int), .iload_n 1, (0, 0, 0, 0, 0, .null)) := rfl
theorem s_M_word_29 {a0 : Option Value} {st : List Value} {σ : am_H} {Q : Option Value → am_H → Prop} {x : Int32} : ax k_M_word 29 [a0, some (.int x)] st σ Q = ax k_M_word 30 [a0, some (.int x)] (.int x :: st) σ Q := ru_loc (q := (_, _)) f_M_word_29 rfl rfl rfl
theorem f_M_word_30 : am_cd k_M_word 30 = some ((some .int), .invokevirtual 176, (118, 2, 1121, 0, 11, .null)) := rfl
theorem s_M_word_30 {ls : am_L} {st : List Value} {σ : am_H} {Q : Option Value → am_H → Prop} {p0 : Int32} {p1 : Int32} {b : Nat} (hi : am_is σ b 11) (h8 : am_s8 st) : ax k_M_word 30 ls (.int p1 :: .int p0 :: .ref b :: st) σ Q = ax k_M_keepPut 0 [some (.ref b), some (.int p0), some (.int p1)] [] σ (ax_k k_M_word 33 ls st Q) := ru_vir (M' := rk_M_keepPut) f_M_word_30 rfl rfl rfl rfl hi h8 rfl rfl rfl rfl rfl
theorem f_M_word_33 : am_cd k_M_word 33 = some ((some .int), .aload_n 0, (0, 0, 0, 0, 0, .null)) := rfl
theorem s_M_word_33 {a1 : Option Value} {st : List Value} {σ : am_H} {Q : Option Value → am_H → Prop} {x : Nat} : ax k_M_word 33 [some (.ref x), a1] st σ Q = ax k_M_word 34 [some (.ref x), a1] (.ref x :: st) σ Q := ru_loc (q := (_, _)) f_M_word_33 rfl rfl rfl
theorem f_M_word_34 : am_cd k_M_word 34 = some ((some .int), .dup, (0, 0, 0, 0, 0, .null)) := rfl
theorem s_M_word_34 {ls : am_L} {st : List Value} {σ : am_H} {Q : Option Value → am_H → Prop} {a : Nat} : ax k_M_word 34 ls (.ref a :: st) σ Q = ax k_M_word 35 ls (.ref a :: .ref a :: st) σ Q := ru_pure f_M_word_34 rfl rfl
theorem f_M_word_35 : am_cd k_M_word 35 = some ((some .int), .getfield 151, (11, 1, 918, 0, 0, .null)) := rfl
theorem s_M_word_35 {ls : am_L} {st : List Value} {σ : am_H} {Q : Option Value → am_H → Prop} {a : Nat} : ax k_M_word 35 ls (.ref a :: st) σ Q = ax_f (am_fld σ a 11 1) (fun v => ax k_M_word 38 ls (v :: st) σ Q) := ru_getf f_M_word_35 rfl
theorem f_M_word_38 : am_cd k_M_word 38 = some ((some .int), .iconst 1, (0, 0, 0, 0, 0, .null)) := rfl
theorem s_M_word_38 {ls : am_L} {st : List Value} {σ : am_H} {Q : Option Value → am_H → Prop} : ax k_M_word 38 ls st σ Q = ax k_M_word 39 ls (.int 1 :: st) σ Q := ru_iconst f_M_word_38 (by decide +kernel) rfl
theorem f_M_word_39 : am_cd k_M_word 39 = some ((some .int), .iadd, (0, 0, 0, 0, 0, .null)) := rfl
theorem s_M_word_39 {ls : am_L} {st : List Value} {σ : am_H} {Q : Option Value → am_H → Prop} {x y : Int32} : ax k_M_word 39 ls (.int y :: .int x :: st) σ Q = ax k_M_word 40 ls (.int (x + y) :: st) σ Q := ru_pure f_M_word_39 rfl rfl
theorem f_M_word_40 : am_cd k_M_word 40 = some ((some .int), .putfield 151, (11, 1, 918, 0, 0, .null)) := rfl
theorem s_M_word_40 {ls : am_L} {st : List Value} {σ : am_H} {Q : Option Value → am_H → Prop} {a : Nat} {v : Value} : ax k_M_word 40 ls (v :: .ref a :: st) σ Q = ax_f (am_fld σ a 11 1) (fun _ => a < am_top ∧ am_okv 0 v = true ∧ ax k_M_word 43 ls st (am_put σ a 1 v) Q) := ru_putf f_M_word_40 rfl
theorem f_M_word_43 : am_cd k_M_word 43 = some ((some .int), .aload_n 0, (0, 0, 0, 0, 0, .null)) := rfl
theorem s_M_word_43 {a1 : Option Value} {st : List Value} {σ : am_H} {Q : Option Value → am_H → Prop} {x : Nat} : ax k_M_word 43 [some (.ref x), a1] st σ Q = ax k_M_word 44 [some (.ref x), a1] (.ref x :: st) σ Q := ru_loc (q := (_, _)) f_M_word_43 rfl rfl rfl
theorem f_M_word_44 : am_cd k_M_word 44 = some ((some .int), .getfield 151, (11, 1, 918, 0, 0, .null)) := rfl
theorem s_M_word_44 {ls : am_L} {st : List Value} {σ : am_H} {Q : Option Value → am_H → Prop} {a : Nat} : ax k_M_word 44 ls (.ref a :: st) σ Q = ax_f (am_fld σ a 11 1) (fun v => ax k_M_word 47 ls (v :: st) σ Q) := ru_getf f_M_word_44 rfl
theorem f_M_word_47 : am_cd k_M_word 47 = some ((some .int), .iconst 1, (0, 0, 0, 0, 0, .null)) := rfl
theorem s_M_word_47 {ls : am_L} {st : List Value} {σ : am_H} {Q : Option Value → am_H → Prop} : ax k_M_word 47 ls st σ Q = ax k_M_word 48 ls (.int 1 :: st) σ Q := ru_iconst f_M_word_47 (by decide +kernel) rfl
theorem f_M_word_48 : am_cd k_M_word 48 = some ((some .int), .isub, (0, 0, 0, 0, 0, .null)) := rfl
theorem s_M_word_48 {ls : am_L} {st : List Value} {σ : am_H} {Q : Option Value → am_H → Prop} {x y : Int32} : ax k_M_word 48 ls (.int y :: .int x :: st) σ Q = ax k_M_word 49 ls (.int (x - y) :: st) σ Q := ru_pure f_M_word_48 rfl rfl
theorem f_M_word_49 : am_cd k_M_word 49 = some ((some .int), .ireturn, (0, 0, 0, 0, 0, .null)) := rfl
theorem s_M_word_49 {ls : am_L} {σ : am_H} {Q : Option Value → am_H → Prop} {v : Int32} : ax k_M_word 49 ls [.int v] σ Q = Q (some (.int v)) σ := ru_iretI f_M_word_49
theorem f_M_put_0 : am_cd k_M_put 0 = some ((some .boolean), .aload_n 0, (0, 0, 0, 0, 0, .null)) := rfl
theorem s_M_put_0 {a1 a2 : Option Value} {st : List Value} {σ : am_H} {Q : Option Value → am_H → Prop} {x : Nat} : ax k_M_put 0 [some (.ref x), a1, a2] st σ Q = ax k_M_put 1 [some (.ref x), a1, a2] (.ref x :: st) σ Q := ru_loc (q := (_, _)) f_M_put_0 rfl rfl rfl
theorem f_M_put_1 : am_cd k_M_put 1 = some ((some .boolean), .iload_n 1, (0, 0, 0, 0, 0, .null)) := rfl
theorem s_M_put_1 {a0 a2 : Option Value} {st : List Value} {σ : am_H} {Q : Option Value → am_H → Prop} {x : Int32} : ax k_M_put 1 [a0, some (.int x), a2] st σ Q = ax k_M_put 2 [a0, some (.int x), a2] (.int x :: st) σ Q := ru_loc (q := (_, _)) f_M_put_1 rfl rfl rfl
theorem f_M_put_2 : am_cd k_M_put 2 = some ((some .boolean), .invokevirtual 172, (114, 1, 1117, 0, 11, .null)) := rfl
theorem s_M_put_2 {ls : am_L} {st : List Value} {σ : am_H} {Q : Option Value → am_H → Prop} {p0 : Int32} {b : Nat} (hi : am_is σ b 11) (h8 : am_s8 st) : ax k_M_put 2 ls (.int p0 :: .ref b :: st) σ Q = ax k_M_isWord 0 [some (.ref b), some (.int p0)] [] σ (ax_k k_M_put 5 ls st Q) := ru_vir (M' := rk_M_isWord) f_M_put_2 rfl rfl rfl rfl hi h8 rfl rfl rfl rfl rfl
theorem f_M_put_5 : am_cd k_M_put 5 = some ((some .boolean), .ifCond .eq 38, (43, 0, 0, 0, 0, .null)) := rfl
theorem s_M_put_5 {ls : am_L} {st : List Value} {σ : am_H} {Q : Option Value → am_H → Prop} {x : Int32} : ax k_M_put 5 ls (.int x :: st) σ Q = (if x = 0 then ax k_M_put 43 ls st σ Q else ax k_M_put 8 ls st σ Q) := (ru_if f_M_put_5 rfl).trans (ru_i_eq _ _ _ _)
theorem f_M_put_8 : am_cd k_M_put 8 = some ((some .boolean), .iload_n 2, (0, 0, 0, 0, 0, .null)) := rfl
theorem s_M_put_8 {a0 a1 : Option Value} {st : List Value} {σ : am_H} {Q : Option Value → am_H → Prop} {x : Int32} : ax k_M_put 8 [a0, a1, some (.int x)] st σ Q = ax k_M_put 9 [a0, a1, some (.int x)] (.int x :: st) σ Q := ru_loc (q := (_, _)) f_M_put_8 rfl rfl rfl
theorem f_M_put_9 : am_cd k_M_put 9 = some ((some .boolean), .iconst (-1), (0, 0, 0, 0, 0, .null)) := rfl
theorem s_M_put_9 {ls : am_L} {st : List Value} {σ : am_H} {Q : Option Value → am_H → Prop} : ax k_M_put 9 ls st σ Q = ax k_M_put 10 ls (.int (-1) :: st) σ Q := ru_iconst f_M_put_9 (by decide +kernel) rfl
theorem f_M_put_10 : am_cd k_M_put 10 = some ((some .boolean), .if_icmp .eq 24, (34, 0, 0, 0, 0, .null)) := rfl
theorem s_M_put_10 {ls : am_L} {st : List Value} {σ : am_H} {Q : Option Value → am_H → Prop} {x y : Int32} : ax k_M_put 10 ls (.int y :: .int x :: st) σ Q = (if x = y then ax k_M_put 34 ls st σ Q else ax k_M_put 13 ls st σ Q) := (ru_icmp f_M_put_10 rfl).trans (ru_i_eq _ _ _ _)
theorem f_M_put_13 : am_cd k_M_put 13 = some ((some .boolean), .aload_n 0, (0, 0, 0, 0, 0, .null)) := rfl
theorem s_M_put_13 {a1 a2 : Option Value} {st : List Value} {σ : am_H} {Q : Option Value → am_H → Prop} {x : Nat} : ax k_M_put 13 [some (.ref x), a1, a2] st σ Q = ax k_M_put 14 [some (.ref x), a1, a2] (.ref x :: st) σ Q := ru_loc (q := (_, _)) f_M_put_13 rfl rfl rfl
theorem f_M_put_14 : am_cd k_M_put 14 = some ((some .boolean), .iload_n 2, (0, 0, 0, 0, 0, .null)) := rfl
theorem s_M_put_14 {a0 a1 : Option Value} {st : List Value} {σ : am_H} {Q : Option Value → am_H → Prop} {x : Int32} : ax k_M_put 14 [a0, a1, some (.int x)] st σ Q = ax k_M_put 15 [a0, a1, some (.int x)] (.int x :: st) σ Q := ru_loc (q := (_, _)) f_M_put_14 rfl rfl rfl
theorem f_M_put_15 : am_cd k_M_put 15 = some ((some .boolean), .invokevirtual 172, (114, 1, 1117, 0, 11, .null)) := rfl
theorem s_M_put_15 {ls : am_L} {st : List Value} {σ : am_H} {Q : Option Value → am_H → Prop} {p0 : Int32} {b : Nat} (hi : am_is σ b 11) (h8 : am_s8 st) : ax k_M_put 15 ls (.int p0 :: .ref b :: st) σ Q = ax k_M_isWord 0 [some (.ref b), some (.int p0)] [] σ (ax_k k_M_put 18 ls st Q) := ru_vir (M' := rk_M_isWord) f_M_put_15 rfl rfl rfl rfl hi h8 rfl rfl rfl rfl rfl
theorem f_M_put_18 : am_cd k_M_put 18 = some ((some .boolean), .ifCond .eq 25, (43, 0, 0, 0, 0, .null)) := rfl
theorem s_M_put_18 {ls : am_L} {st : List Value} {σ : am_H} {Q : Option Value → am_H → Prop} {x : Int32} : ax k_M_put 18 ls (.int x :: st) σ Q = (if x = 0 then ax k_M_put 43 ls st σ Q else ax k_M_put 21 ls st σ Q) := (ru_if f_M_put_18 rfl).trans (ru_i_eq _ _ _ _)
theorem f_M_put_21 : am_cd k_M_put 21 = some ((some .boolean), .aload_n 0, (0, 0, 0, 0, 0, .null)) := rfl
theorem s_M_put_21 {a1 a2 : Option Value} {st : List Value} {σ : am_H} {Q : Option Value → am_H → Prop} {x : Nat} : ax k_M_put 21 [some (.ref x), a1, a2] st σ Q = ax k_M_put 22 [some (.ref x), a1, a2] (.ref x :: st) σ Q := ru_loc (q := (_, _)) f_M_put_21 rfl rfl rfl
theorem f_M_put_22 : am_cd k_M_put 22 = some ((some .boolean), .iload_n 2, (0, 0, 0, 0, 0, .null)) := rfl
theorem s_M_put_22 {a0 a1 : Option Value} {st : List Value} {σ : am_H} {Q : Option Value → am_H → Prop} {x : Int32} : ax k_M_put 22 [a0, a1, some (.int x)] st σ Q = ax k_M_put 23 [a0, a1, some (.int x)] (.int x :: st) σ Q := ru_loc (q := (_, _)) f_M_put_22 rfl rfl rfl
theorem f_M_put_23 : am_cd k_M_put 23 = some ((some .boolean), .iload_n 1, (0, 0, 0, 0, 0, .null)) := rfl
theorem s_M_put_23 {a0 a2 : Option Value} {st : List Value} {σ : am_H} {Q : Option Value → am_H → Prop} {x : Int32} : ax k_M_put 23 [a0, some (.int x), a2] st σ Q = ax k_M_put 24 [a0, some (.int x), a2] (.int x :: st) σ Q := ru_loc (q := (_, _)) f_M_put_23 rfl rfl rfl
theorem f_M_put_24 : am_cd k_M_put 24 = some ((some .boolean), .aload_n 0, (0, 0, 0, 0, 0, .null)) := rfl
theorem s_M_put_24 {a1 a2 : Option Value} {st : List Value} {σ : am_H} {Q : Option Value → am_H → Prop} {x : Nat} : ax k_M_put 24 [some (.ref x), a1, a2] st σ Q = ax k_M_put 25 [some (.ref x), a1, a2] (.ref x :: st) σ Q := ru_loc (q := (_, _)) f_M_put_24 rfl rfl rfl
theorem f_M_put_25 : am_cd k_M_put 25 = some ((some .boolean), .getfield 161, (11, 0, 917, 0, 0, .null)) := rfl
theorem s_M_put_25 {ls : am_L} {st : List Value} {σ : am_H} {Q : Option Value → am_H → Prop} {a : Nat} : ax k_M_put 25 ls (.ref a :: st) σ Q = ax_f (am_fld σ a 11 0) (fun v => ax k_M_put 28 ls (v :: st) σ Q) := ru_getf f_M_put_25 rfl
theorem f_M_put_28 : am_cd k_M_put 28 = some ((some .boolean), .invokevirtual 180, (120, 3, 1129, 0, 11, .null)) := rfl
theorem s_M_put_28 {ls : am_L} {st : List Value} {σ : am_H} {Q : Option Value → am_H → Prop} {p0 : Int32} {p1 : Int32} {p2 : Int32} {b : Nat} (hi : am_is σ b 11) (h8 : am_s8 st) : ax k_M_put 28 ls (.int p2 :: .int p1 :: .int p0 :: .ref b :: st) σ Q = ax k_M_isOf 0 [some (.ref b), some (.int p0), some (.int p1), some (.int p2), none] [] σ (ax_k k_M_put 31 ls st Q) := ru_vir (M' := rk_M_isOf) f_M_put_28 rfl rfl rfl rfl hi h8 rfl rfl rfl rfl rfl
theorem f_M_put_31 : am_cd k_M_put 31 = some ((some .boolean), .ifCond .ne 12, (43, 0, 0, 0, 0, .null)) := rfl
theorem s_M_put_31 {ls : am_L} {st : List Value} {σ : am_H} {Q : Option Value → am_H → Prop} {x : Int32} : ax k_M_put 31 ls (.int x :: st) σ Q = (if x = 0 then ax k_M_put 34 ls st σ Q else ax k_M_put 43 ls st σ Q) := (ru_if f_M_put_31 rfl).trans (ru_i_ne _ _ _ _)
theorem f_M_put_34 : am_cd k_M_put 34 = some ((some .boolean), .aload_n 0, (0, 0, 0, 0, 0, .null)) := rfl
theorem s_M_put_34 {a1 a2 : Option Value} {st : List Value} {σ : am_H} {Q : Option Value → am_H → Prop} {x : Nat} : ax k_M_put 34 [some (.ref x), a1, a2] st σ Q = ax k_M_put 35 [some (.ref x), a1, a2] (.ref x :: st) σ Q := ru_loc (q := (_, _)) f_M_put_34 rfl rfl rfl
theorem f_M_put_35 : am_cd k_M_put 35 = some ((some .boolean), .getfield 183, (11, 3, 920, 0, 0, .null)) := rfl
theorem s_M_put_35 {ls : am_L} {st : List Value} {σ : am_H} {Q : Option Value → am_H → Prop} {a : Nat} : ax k_M_put 35 ls (.ref a :: st) σ Q = ax_f (am_fld σ a 11 3) (fun v => ax k_M_put 38 ls (v :: st) σ Q) := ru_getf f_M_put_35 rfl
theorem f_M_put_38 : am_cd k_M_put 38 = some ((some .boolean), .bipush 100, (0, 0, 0, 0, 0, .null)) := rfl
theorem s_M_put_38 {ls : am_L} {st : List Value} {σ : am_H} {Q : Option Value → am_H → Prop} : ax k_M_put 38 ls st σ Q = ax k_M_put 40 ls (.int 100 :: st) σ Q := ru_bipush f_M_put_38 (by decide +kernel) rfl
theorem f_M_put_40 : am_cd k_M_put 40 = some ((some .boolean), .if_icmp .ne 5, (45, 0, 0, 0, 0, .null)) := rfl
theorem s_M_put_40 {ls : am_L} {st : List Value} {σ : am_H} {Q : Option Value → am_H → Prop} {x y : Int32} : ax k_M_put 40 ls (.int y :: .int x :: st) σ Q = (if x = y then ax k_M_put 43 ls st σ Q else ax k_M_put 45 ls st σ Q) := (ru_icmp f_M_put_40 rfl).trans (ru_i_ne _ _ _ _)
theorem f_M_put_43 : am_cd k_M_put 43 = some ((some .boolean), .iconst 0, (0, 0, 0, 0, 0, .null)) := rfl
theorem s_M_put_43 {ls : am_L} {st : List Value} {σ : am_H} {Q : Option Value → am_H → Prop} : ax k_M_put 43 ls st σ Q = ax k_M_put 44 ls (.int 0 :: st) σ Q := ru_iconst f_M_put_43 (by decide +kernel) rfl
theorem f_M_put_44 : am_cd k_M_put 44 = some ((some .boolean), .ireturn, (0, 0, 0, 0, 0, .null)) := rfl
theorem s_M_put_44 {ls : am_L} {σ : am_H} {Q : Option Value → am_H → Prop} {v : Int32} : ax k_M_put 44 ls ([.int v]) σ Q = (am_nar .boolean v = true ∧ Q (some (.int v)) σ) := ru_iret f_M_put_44
theorem f_M_put_45 : am_cd k_M_put 45 = some ((some .boolean), .aload_n 0, (0, 0, 0, 0, 0, .null)) := rfl
theorem s_M_put_45 {a1 a2 : Option Value} {st : List Value} {σ : am_H} {Q : Option Value → am_H → Prop} {x : Nat} : ax k_M_put 45 [some (.ref x), a1, a2] st σ Q = ax k_M_put 46 [some (.ref x), a1, a2] (.ref x :: st) σ Q := ru_loc (q := (_, _)) f_M_put_45 rfl rfl rfl
theorem f_M_put_46 : am_cd k_M_put 46 = some ((some .boolean), .iload_n 1, (0, 0, 0, 0, 0, .null)) := rfl
theorem s_M_put_46 {a0 a2 : Option Value} {st : List Value} {σ : am_H} {Q : Option Value → am_H → Prop} {x : Int32} : ax k_M_put 46 [a0, some (.int x), a2] st σ Q = ax k_M_put 47 [a0, some (.int x), a2] (.int x :: st) σ Q := ru_loc (q := (_, _)) f_M_put_46 rfl rfl rfl
theorem f_M_put_47 : am_cd k_M_put 47 = some ((some .boolean), .iload_n 2, (0, 0, 0, 0, 0, .null)) := rfl
theorem s_M_put_47 {a0 a1 : Option Value} {st : List Value} {σ : am_H} {Q : Option Value → am_H → Prop} {x : Int32} : ax k_M_put 47 [a0, a1, some (.int x)] st σ Q = ax k_M_put 48 [a0, a1, some (.int x)] (.int x :: st) σ Q := ru_loc (q := (_, _)) f_M_put_47 rfl rfl rfl
theorem f_M_put_48 : am_cd k_M_put 48 = some ((some .boolean), .invokevirtual 176, (118, 2, 1121, 0, 11, .null)) := rfl
theorem s_M_put_48 {ls : am_L} {st : List Value} {σ : am_H} {Q : Option Value → am_H → Prop} {p0 : Int32} {p1 : Int32} {b : Nat} (hi : am_is σ b 11) (h8 : am_s8 st) : ax k_M_put 48 ls (.int p1 :: .int p0 :: .ref b :: st) σ Q = ax k_M_keepPut 0 [some (.ref b), some (.int p0), some (.int p1)] [] σ (ax_k k_M_put 51 ls st Q) := ru_vir (M' := rk_M_keepPut) f_M_put_48 rfl rfl rfl rfl hi h8 rfl rfl rfl rfl rfl
theorem f_M_put_51 : am_cd k_M_put 51 = some ((some .boolean), .aload_n 0, (0, 0, 0, 0, 0, .null)) := rfl
theorem s_M_put_51 {a1 a2 : Option Value} {st : List Value} {σ : am_H} {Q : Option Value → am_H → Prop} {x : Nat} : ax k_M_put 51 [some (.ref x), a1, a2] st σ Q = ax k_M_put 52 [some (.ref x), a1, a2] (.ref x :: st) σ Q := ru_loc (q := (_, _)) f_M_put_51 rfl rfl rfl
theorem f_M_put_52 : am_cd k_M_put 52 = some ((some .boolean), .dup, (0, 0, 0, 0, 0, .null)) := rfl
theorem s_M_put_52 {ls : am_L} {st : List Value} {σ : am_H} {Q : Option Value → am_H → Prop} {a : Nat} : ax k_M_put 52 ls (.ref a :: st) σ Q = ax k_M_put 53 ls (.ref a :: .ref a :: st) σ Q := ru_pure f_M_put_52 rfl rfl
theorem f_M_put_53 : am_cd k_M_put 53 = some ((some .boolean), .getfield 183, (11, 3, 920, 0, 0, .null)) := rfl
theorem s_M_put_53 {ls : am_L} {st : List Value} {σ : am_H} {Q : Option Value → am_H → Prop} {a : Nat} : ax k_M_put 53 ls (.ref a :: st) σ Q = ax_f (am_fld σ a 11 3) (fun v => ax k_M_put 56 ls (v :: st) σ Q) := ru_getf f_M_put_53 rfl
theorem f_M_put_56 : am_cd k_M_put 56 = some ((some .boolean), .iconst 1, (0, 0, 0, 0, 0, .null)) := rfl
theorem s_M_put_56 {ls : am_L} {st : List Value} {σ : am_H} {Q : Option Value → am_H → Prop} : ax k_M_put 56 ls st σ Q = ax k_M_put 57 ls (.int 1 :: st) σ Q := ru_iconst f_M_put_56 (by decide +kernel) rfl
theorem f_M_put_57 : am_cd k_M_put 57 = some ((some .boolean), .iadd, (0, 0, 0, 0, 0, .null)) := rfl
theorem s_M_put_57 {ls : am_L} {st : List Value} {σ : am_H} {Q : Option Value → am_H → Prop} {x y : Int32} : ax k_M_put 57 ls (.int y :: .int x :: st) σ Q = ax k_M_put 58 ls (.int (x + y) :: st) σ Q := ru_pure f_M_put_57 rfl rfl
theorem f_M_put_58 : am_cd k_M_put 58 = some ((some .boolean), .putfield 183, (11, 3, 920, 0, 0, .null)) := rfl
theorem s_M_put_58 {ls : am_L} {st : List Value} {σ : am_H} {Q : Option Value → am_H → Prop} {a : Nat} {v : Value} : ax k_M_put 58 ls (v :: .ref a :: st) σ Q = ax_f (am_fld σ a 11 3) (fun _ => a < am_top ∧ am_okv 0 v = true ∧ ax k_M_put 61 ls st (am_put σ a 3 v) Q) := ru_putf f_M_put_58 rfl
theorem f_M_put_61 : am_cd k_M_put 61 = some ((some .boolean), .iconst 1, (0, 0, 0, 0, 0, .null)) := rfl
theorem s_M_put_61 {ls : am_L} {st : List Value} {σ : am_H} {Q : Option Value → am_H → Prop} : ax k_M_put 61 ls st σ Q = ax k_M_put 62 ls (.int 1 :: st) σ Q := ru_iconst f_M_put_61 (by decide +kernel) rfl
theorem f_M_put_62 : am_cd k_M_put 62 = some ((some .boolean), .ireturn, (0, 0, 0, 0, 0, .null)) := rfl
theorem s_M_put_62 {ls : am_L} {σ : am_H} {Q : Option Value → am_H → Prop} {v : Int32} : ax k_M_put 62 ls ([.int v]) σ Q = (am_nar .boolean v = true ∧ Q (some (.int v)) σ) := ru_iret f_M_put_62
theorem f_M_within_0 : am_cd k_M_within 0 = some ((some .int), .aload_n 0, (0, 0, 0, 0, 0, .null)) := rfl
theorem s_M_within_0 {a1 a2 : Option Value} {st : List Value} {σ : am_H} {Q : Option Value → am_H → Prop} {x : Nat} : ax k_M_within 0 [some (.ref x), a1, a2] st σ Q = ax k_M_within 1 [some (.ref x), a1, a2] (.ref x :: st) σ Q := ru_loc (q := (_, _)) f_M_within_0 rfl rfl rfl
theorem f_M_within_1 : am_cd k_M_within 1 = some ((some .int), .iload_n 1, (0, 0, 0, 0, 0, .null)) := rfl
theorem s_M_within_1 {a0 a2 : Option Value} {st : List Value} {σ : am_H} {Q : Option Value → am_H → Prop} {x : Int32} : ax k_M_within 1 [a0, some (.int x), a2] st σ Q = ax k_M_within 2 [a0, some (.int x), a2] (.int x :: st) σ Q := ru_loc (q := (_, _)) f_M_within_1 rfl rfl rfl
theorem f_M_within_2 : am_cd k_M_within 2 = some ((some .int), .invokevirtual 172, (114, 1, 1117, 0, 11, .null)) := rfl
theorem s_M_within_2 {ls : am_L} {st : List Value} {σ : am_H} {Q : Option Value → am_H → Prop} {p0 : Int32} {b : Nat} (hi : am_is σ b 11) (h8 : am_s8 st) : ax k_M_within 2 ls (.int p0 :: .ref b :: st) σ Q = ax k_M_isWord 0 [some (.ref b), some (.int p0)] [] σ (ax_k k_M_within 5 ls st Q) := ru_vir (M' := rk_M_isWord) f_M_within_2 rfl rfl rfl rfl hi h8 rfl rfl rfl rfl rfl
theorem f_M_within_5 : am_cd k_M_within 5 = some ((some .int), .ifCond .eq 20, (25, 0, 0, 0, 0, .null)) := rfl
theorem s_M_within_5 {ls : am_L} {st : List Value} {σ : am_H} {Q : Option Value → am_H → Prop} {x : Int32} : ax k_M_within 5 ls (.int x :: st) σ Q = (if x = 0 then ax k_M_within 25 ls st σ Q else ax k_M_within 8 ls st σ Q) := (ru_if f_M_within_5 rfl).trans (ru_i_eq _ _ _ _)
theorem f_M_within_8 : am_cd k_M_within 8 = some ((some .int), .aload_n 0, (0, 0, 0, 0, 0, .null)) := rfl
theorem s_M_within_8 {a1 a2 : Option Value} {st : List Value} {σ : am_H} {Q : Option Value → am_H → Prop} {x : Nat} : ax k_M_within 8 [some (.ref x), a1, a2] st σ Q = ax k_M_within 9 [some (.ref x), a1, a2] (.ref x :: st) σ Q := ru_loc (q := (_, _)) f_M_within_8 rfl rfl rfl
theorem f_M_within_9 : am_cd k_M_within 9 = some ((some .int), .iload_n 2, (0, 0, 0, 0, 0, .null)) := rfl
theorem s_M_within_9 {a0 a1 : Option Value} {st : List Value} {σ : am_H} {Q : Option Value → am_H → Prop} {x : Int32} : ax k_M_within 9 [a0, a1, some (.int x)] st σ Q = ax k_M_within 10 [a0, a1, some (.int x)] (.int x :: st) σ Q := ru_loc (q := (_, _)) f_M_within_9 rfl rfl rfl
theorem f_M_within_10 : am_cd k_M_within 10 = some ((some .int), .invokevirtual 186, (116, 1, 1141, 0, 11, .null)) := rfl
theorem s_M_within_10 {ls : am_L} {st : List Value} {σ : am_H} {Q : Option Value → am_H → Prop} {p0 : Int32} {b : Nat} (hi : am_is σ b 11) (h8 : am_s8 st) : ax k_M_within 10 ls (.int p0 :: .ref b :: st) σ Q = ax k_M_isPast 0 [some (.ref b), some (.int p0)] [] σ (ax_k k_M_within 13 ls st Q) := ru_vir (M' := rk_M_isPast) f_M_within_10 rfl rfl rfl rfl hi h8 rfl rfl rfl rfl rfl
theorem f_M_within_13 : am_cd k_M_within 13 = some ((some .int), .ifCond .eq 12, (25, 0, 0, 0, 0, .null)) := rfl
theorem s_M_within_13 {ls : am_L} {st : List Value} {σ : am_H} {Q : Option Value → am_H → Prop} {x : Int32} : ax k_M_within 13 ls (.int x :: st) σ Q = (if x = 0 then ax k_M_within 25 ls st σ Q else ax k_M_within 16 ls st σ Q) := (ru_if f_M_within_13 rfl).trans (ru_i_eq _ _ _ _)
theorem f_M_within_16 : am_cd k_M_within 16 = some ((some .int), .aload_n 0, (0, 0, 0, 0, 0, .null)) := rfl
theorem s_M_within_16 {a1 a2 : Option Value} {st : List Value} {σ : am_H} {Q : Option Value → am_H → Prop} {x : Nat} : ax k_M_within 16 [some (.ref x), a1, a2] st σ Q = ax k_M_within 17 [some (.ref x), a1, a2] (.ref x :: st) σ Q := ru_loc (q := (_, _)) f_M_within_16 rfl rfl rfl
theorem f_M_within_17 : am_cd k_M_within 17 = some ((some .int), .iload_n 1, (0, 0, 0, 0, 0, .null)) := rfl
theorem s_M_within_17 {a0 a2 : Option Value} {st : List Value} {σ : am_H} {Q : Option Value → am_H → Prop} {x : Int32} : ax k_M_within 17 [a0, some (.int x), a2] st σ Q = ax k_M_within 18 [a0, some (.int x), a2] (.int x :: st) σ Q := ru_loc (q := (_, _)) f_M_within_17 rfl rfl rfl
theorem f_M_within_18 : am_cd k_M_within 18 = some ((some .int), .iload_n 2, (0, 0, 0, 0, 0, .null)) := rfl
theorem s_M_within_18 {a0 a1 : Option Value} {st : List Value} {σ : am_H} {Q : Option Value → am_H → Prop} {x : Int32} : ax k_M_within 18 [a0, a1, some (.int x)] st σ Q = ax k_M_within 19 [a0, a1, some (.int x)] (.int x :: st) σ Q := ru_loc (q := (_, _)) f_M_within_18 rfl rfl rfl
theorem f_M_within_19 : am_cd k_M_within 19 = some ((some .int), .invokevirtual 168, (119, 2, 1133, 0, 11, .null)) := rfl
theorem s_M_within_19 {ls : am_L} {st : List Value} {σ : am_H} {Q : Option Value → am_H → Prop} {p0 : Int32} {p1 : Int32} {b : Nat} (hi : am_is σ b 11) (h8 : am_s8 st) : ax k_M_within 19 ls (.int p1 :: .int p0 :: .ref b :: st) σ Q = ax k_M_liesIn 0 [some (.ref b), some (.int p0), some (.int p1), none, none] [] σ (ax_k k_M_within 22 ls st Q) := ru_vir (M' := rk_M_liesIn) f_M_within_19 rfl rfl rfl rfl hi h8 rfl rfl rfl rfl rfl
theorem f_M_within_22 : am_cd k_M_within 22 = some ((some .int), .goto 4, (26, 0, 0, 0, 0, .null)) := rfl
theorem s_M_within_22 {ls : am_L} {st : List Value} {σ : am_H} {Q : Option Value → am_H → Prop} : ax k_M_within 22 ls st σ Q = ax k_M_within 26 ls st σ Q := ru_goto f_M_within_22
theorem f_M_within_25 : am_cd k_M_within 25 = some ((some .int), .iconst (-1), (0, 0, 0, 0, 0, .null)) := rfl
theorem s_M_within_25 {ls : am_L} {st : List Value} {σ : am_H} {Q : Option Value → am_H → Prop} : ax k_M_within 25 ls st σ Q = ax k_M_within 26 ls (.int (-1) :: st) σ Q := ru_iconst f_M_within_25 (by decide +kernel) rfl
theorem f_M_within_26 : am_cd k_M_within 26 = some ((some .int), .ireturn, (0, 0, 0, 0, 0, .null)) := rfl
theorem s_M_within_26 {ls : am_L} {σ : am_H} {Q : Option Value → am_H → Prop} {v : Int32} : ax k_M_within 26 ls [.int v] σ Q = Q (some (.int v)) σ := ru_iretI f_M_within_26
theorem f_M_picture_0 : am_cd k_M_picture 0 = some ((some .int), .iload_n 1, (0, 0, 0, 0, 0, .null)) := rfl
theorem s_M_picture_0 {a0 a2 a3 a4 a5 a6 : Option Value} {st : List Value} {σ : am_H} {Q : Option Value → am_H → Prop} {x : Int32} : ax k_M_picture 0 [a0, some (.int x), a2, a3, a4, a5, a6] st σ Q = ax k_M_picture 1 [a0, some (.int x), a2, a3, a4, a5, a6] (.int x :: st) σ Q := ru_loc (q := (_, _)) f_M_picture_0 rfl rfl rfl
theorem f_M_picture_1 : am_cd k_M_picture 1 = some ((some .int), .iconst 0, (0, 0, 0, 0, 0, .null)) := rfl
theorem s_M_picture_1 {ls : am_L} {st : List Value} {σ : am_H} {Q : Option Value → am_H → Prop} : ax k_M_picture 1 ls st σ Q = ax k_M_picture 2 ls (.int 0 :: st) σ Q := ru_iconst f_M_picture_1 (by decide +kernel) rfl
theorem f_M_picture_2 : am_cd k_M_picture 2 = some ((some .int), .bipush 15, (0, 0, 0, 0, 0, .null)) := rfl
theorem s_M_picture_2 {ls : am_L} {st : List Value} {σ : am_H} {Q : Option Value → am_H → Prop} : ax k_M_picture 2 ls st σ Q = ax k_M_picture 4 ls (.int 15 :: st) σ Q := ru_bipush f_M_picture_2 (by decide +kernel) rfl
theorem f_M_picture_4 : am_cd k_M_picture 4 = some ((some .int), .invokestatic 154, (113, 3, 1110, 0, 11, .null)) := rfl
theorem s_M_picture_4 {ls : am_L} {st : List Value} {σ : am_H} {Q : Option Value → am_H → Prop} {p0 : Int32} {p1 : Int32} {p2 : Int32} (h8 : am_s8 st) : ax k_M_picture 4 ls (.int p2 :: .int p1 :: .int p0 :: st) σ Q = ax k_M_isIn 0 [some (.int p0), some (.int p1), some (.int p2)] [] σ (ax_k k_M_picture 7 ls st Q) := ru_sta (M' := rk_M_isIn) f_M_picture_4 rfl (by decide) rfl (by simp) rfl h8 rfl rfl rfl rfl rfl
theorem f_M_picture_7 : am_cd k_M_picture 7 = some ((some .int), .ifCond .eq 33, (40, 0, 0, 0, 0, .null)) := rfl
theorem s_M_picture_7 {ls : am_L} {st : List Value} {σ : am_H} {Q : Option Value → am_H → Prop} {x : Int32} : ax k_M_picture 7 ls (.int x :: st) σ Q = (if x = 0 then ax k_M_picture 40 ls st σ Q else ax k_M_picture 10 ls st σ Q) := (ru_if f_M_picture_7 rfl).trans (ru_i_eq _ _ _ _)
theorem f_M_picture_10 : am_cd k_M_picture 10 = some ((some .int), .iload_n 2, (0, 0, 0, 0, 0, .null)) := rfl
theorem s_M_picture_10 {a0 a1 a3 a4 a5 a6 : Option Value} {st : List Value} {σ : am_H} {Q : Option Value → am_H → Prop} {x : Int32} : ax k_M_picture 10 [a0, a1, some (.int x), a3, a4, a5, a6] st σ Q = ax k_M_picture 11 [a0, a1, some (.int x), a3, a4, a5, a6] (.int x :: st) σ Q := ru_loc (q := (_, _)) f_M_picture_10 rfl rfl rfl
theorem f_M_picture_11 : am_cd k_M_picture 11 = some ((some .int), .iconst 0, (0, 0, 0, 0, 0, .null)) := rfl
theorem s_M_picture_11 {ls : am_L} {st : List Value} {σ : am_H} {Q : Option Value → am_H → Prop} : ax k_M_picture 11 ls st σ Q = ax k_M_picture 12 ls (.int 0 :: st) σ Q := ru_iconst f_M_picture_11 (by decide +kernel) rfl
theorem f_M_picture_12 : am_cd k_M_picture 12 = some ((some .int), .ldc 164, (0, 0, 1109, 0, 0, .int (100000))) := rfl
theorem s_M_picture_12 {ls : am_L} {st : List Value} {σ : am_H} {Q : Option Value → am_H → Prop} : ax k_M_picture 12 ls st σ Q = ax k_M_picture 14 ls (.int (100000) :: st) σ Q := ru_rd f_M_picture_12 rfl rfl rfl rfl rfl
theorem f_M_picture_14 : am_cd k_M_picture 14 = some ((some .int), .invokestatic 154, (113, 3, 1110, 0, 11, .null)) := rfl
theorem s_M_picture_14 {ls : am_L} {st : List Value} {σ : am_H} {Q : Option Value → am_H → Prop} {p0 : Int32} {p1 : Int32} {p2 : Int32} (h8 : am_s8 st) : ax k_M_picture 14 ls (.int p2 :: .int p1 :: .int p0 :: st) σ Q = ax k_M_isIn 0 [some (.int p0), some (.int p1), some (.int p2)] [] σ (ax_k k_M_picture 17 ls st Q) := ru_sta (M' := rk_M_isIn) f_M_picture_14 rfl (by decide) rfl (by simp) rfl h8 rfl rfl rfl rfl rfl
theorem f_M_picture_17 : am_cd k_M_picture 17 = some ((some .int), .ifCond .eq 23, (40, 0, 0, 0, 0, .null)) := rfl
theorem s_M_picture_17 {ls : am_L} {st : List Value} {σ : am_H} {Q : Option Value → am_H → Prop} {x : Int32} : ax k_M_picture 17 ls (.int x :: st) σ Q = (if x = 0 then ax k_M_picture 40 ls st σ Q else ax k_M_picture 20 ls st σ Q) := (ru_if f_M_picture_17 rfl).trans (ru_i_eq _ _ _ _)
theorem f_M_picture_20 : am_cd k_M_picture 20 = some ((some .int), .iload 5, (0, 0, 0, 0, 0, .null)) := rfl
theorem s_M_picture_20 {a0 a1 a2 a3 a4 a6 : Option Value} {st : List Value} {σ : am_H} {Q : Option Value → am_H → Prop} {x : Int32} : ax k_M_picture 20 [a0, a1, a2, a3, a4, some (.int x), a6] st σ Q = ax k_M_picture 22 [a0, a1, a2, a3, a4, some (.int x), a6] (.int x :: st) σ Q := ru_loc (q := (_, _)) f_M_picture_20 rfl rfl rfl
theorem f_M_picture_22 : am_cd k_M_picture 22 = some ((some .int), .iconst 0, (0, 0, 0, 0, 0, .null)) := rfl
theorem s_M_picture_22 {ls : am_L} {st : List Value} {σ : am_H} {Q : Option Value → am_H → Prop} : ax k_M_picture 22 ls st σ Q = ax k_M_picture 23 ls (.int 0 :: st) σ Q := ru_iconst f_M_picture_22 (by decide +kernel) rfl
theorem f_M_picture_23 : am_cd k_M_picture 23 = some ((some .int), .ldc 189, (0, 0, 1149, 0, 0, .int (65535))) := rfl
theorem s_M_picture_23 {ls : am_L} {st : List Value} {σ : am_H} {Q : Option Value → am_H → Prop} : ax k_M_picture 23 ls st σ Q = ax k_M_picture 25 ls (.int (65535) :: st) σ Q := ru_rd f_M_picture_23 rfl rfl rfl rfl rfl
theorem f_M_picture_25 : am_cd k_M_picture 25 = some ((some .int), .invokestatic 154, (113, 3, 1110, 0, 11, .null)) := rfl
theorem s_M_picture_25 {ls : am_L} {st : List Value} {σ : am_H} {Q : Option Value → am_H → Prop} {p0 : Int32} {p1 : Int32} {p2 : Int32} (h8 : am_s8 st) : ax k_M_picture 25 ls (.int p2 :: .int p1 :: .int p0 :: st) σ Q = ax k_M_isIn 0 [some (.int p0), some (.int p1), some (.int p2)] [] σ (ax_k k_M_picture 28 ls st Q) := ru_sta (M' := rk_M_isIn) f_M_picture_25 rfl (by decide) rfl (by simp) rfl h8 rfl rfl rfl rfl rfl
theorem f_M_picture_28 : am_cd k_M_picture 28 = some ((some .int), .ifCond .eq 12, (40, 0, 0, 0, 0, .null)) := rfl
theorem s_M_picture_28 {ls : am_L} {st : List Value} {σ : am_H} {Q : Option Value → am_H → Prop} {x : Int32} : ax k_M_picture 28 ls (.int x :: st) σ Q = (if x = 0 then ax k_M_picture 40 ls st σ Q else ax k_M_picture 31 ls st σ Q) := (ru_if f_M_picture_28 rfl).trans (ru_i_eq _ _ _ _)
theorem f_M_picture_31 : am_cd k_M_picture 31 = some ((some .int), .aload_n 0, (0, 0, 0, 0, 0, .null)) := rfl
theorem s_M_picture_31 {a1 a2 a3 a4 a5 a6 : Option Value} {st : List Value} {σ : am_H} {Q : Option Value → am_H → Prop} {x : Nat} : ax k_M_picture 31 [some (.ref x), a1, a2, a3, a4, a5, a6] st σ Q = ax k_M_picture 32 [some (.ref x), a1, a2, a3, a4, a5, a6] (.ref x :: st) σ Q := ru_loc (q := (_, _)) f_M_picture_31 rfl rfl rfl
theorem f_M_picture_32 : am_cd k_M_picture 32 = some ((some .int), .getfield 158, (11, 7, 924, 0, 0, .null)) := rfl
theorem s_M_picture_32 {ls : am_L} {st : List Value} {σ : am_H} {Q : Option Value → am_H → Prop} {a : Nat} : ax k_M_picture 32 ls (.ref a :: st) σ Q = ax_f (am_fld σ a 11 7) (fun v => ax k_M_picture 35 ls (v :: st) σ Q) := ru_getf f_M_picture_32 rfl
theorem f_M_picture_35 : am_cd k_M_picture 35 = some ((some .int), .bipush 40, (0, 0, 0, 0, 0, .null)) := rfl
theorem s_M_picture_35 {ls : am_L} {st : List Value} {σ : am_H} {Q : Option Value → am_H → Prop} : ax k_M_picture 35 ls st σ Q = ax k_M_picture 37 ls (.int 40 :: st) σ Q := ru_bipush f_M_picture_35 (by decide +kernel) rfl
theorem f_M_picture_37 : am_cd k_M_picture 37 = some ((some .int), .if_icmp .ne 5, (42, 0, 0, 0, 0, .null)) := rfl
theorem s_M_picture_37 {ls : am_L} {st : List Value} {σ : am_H} {Q : Option Value → am_H → Prop} {x y : Int32} : ax k_M_picture 37 ls (.int y :: .int x :: st) σ Q = (if x = y then ax k_M_picture 40 ls st σ Q else ax k_M_picture 42 ls st σ Q) := (ru_icmp f_M_picture_37 rfl).trans (ru_i_ne _ _ _ _)
theorem f_M_picture_40 : am_cd k_M_picture 40 = some ((some .int), .iconst (-1), (0, 0, 0, 0, 0, .null)) := rfl
theorem s_M_picture_40 {ls : am_L} {st : List Value} {σ : am_H} {Q : Option Value → am_H → Prop} : ax k_M_picture 40 ls st σ Q = ax k_M_picture 41 ls (.int (-1) :: st) σ Q := ru_iconst f_M_picture_40 (by decide +kernel) rfl
theorem f_M_picture_41 : am_cd k_M_picture 41 = some ((some .int), .ireturn, (0, 0, 0, 0, 0, .null)) := rfl
theorem s_M_picture_41 {ls : am_L} {σ : am_H} {Q : Option Value → am_H → Prop} {v : Int32} : ax k_M_picture 41 ls [.int v] σ Q = Q (some (.int v)) σ := ru_iretI f_M_picture_41
theorem f_M_picture_42 : am_cd k_M_picture 42 = some ((some .int), .aload_n 0, (0, 0, 0, 0, 0, .null)) := rfl
theorem s_M_picture_42 {a1 a2 a3 a4 a5 a6 : Option Value} {st : List Value} {σ : am_H} {Q : Option Value → am_H → Prop} {x : Nat} : ax k_M_picture 42 [some (.ref x), a1, a2, a3, a4, a5, a6] st σ Q = ax k_M_picture 43 [some (.ref x), a1, a2, a3, a4, a5, a6] (.ref x :: st) σ Q := ru_loc (q := (_, _)) f_M_picture_42 rfl rfl rfl
theorem f_M_picture_43 : am_cd k_M_picture 43 = some ((some .int), .getfield 19, (11, 8, 925, 0, 3, .null)) := rfl
theorem s_M_picture_43 {ls : am_L} {st : List Value} {σ : am_H} {Q : Option Value → am_H → Prop} {a : Nat} : ax k_M_picture 43 ls (.ref a :: st) σ Q = ax_f (am_fld σ a 11 8) (fun v => ax k_M_picture 46 ls (v :: st) σ Q) := ru_getf f_M_picture_43 rfl
theorem f_M_picture_46 : am_cd k_M_picture 46 = some ((some .int), .aload_n 0, (0, 0, 0, 0, 0, .null)) := rfl
theorem s_M_picture_46 {a1 a2 a3 a4 a5 a6 : Option Value} {st : List Value} {σ : am_H} {Q : Option Value → am_H → Prop} {x : Nat} : ax k_M_picture 46 [some (.ref x), a1, a2, a3, a4, a5, a6] st σ Q = ax k_M_picture 47 [some (.ref x), a1, a2, a3, a4, a5, a6] (.ref x :: st) σ Q := ru_loc (q := (_, _)) f_M_picture_46 rfl rfl rfl
theorem f_M_picture_47 : am_cd k_M_picture 47 = some ((some .int), .getfield 158, (11, 7, 924, 0, 0, .null)) := rfl
theorem s_M_picture_47 {ls : am_L} {st : List Value} {σ : am_H} {Q : Option Value → am_H → Prop} {a : Nat} : ax k_M_picture 47 ls (.ref a :: st) σ Q = ax_f (am_fld σ a 11 7) (fun v => ax k_M_picture 50 ls (v :: st) σ Q) := ru_getf f_M_picture_47 rfl
theorem f_M_picture_50 : am_cd k_M_picture 50 = some ((some .int), .iload_n 1, (0, 0, 0, 0, 0, .null)) := rfl
theorem s_M_picture_50 {a0 a2 a3 a4 a5 a6 : Option Value} {st : List Value} {σ : am_H} {Q : Option Value → am_H → Prop} {x : Int32} : ax k_M_picture 50 [a0, some (.int x), a2, a3, a4, a5, a6] st σ Q = ax k_M_picture 51 [a0, some (.int x), a2, a3, a4, a5, a6] (.int x :: st) σ Q := ru_loc (q := (_, _)) f_M_picture_50 rfl rfl rfl
theorem f_M_picture_51 : am_cd k_M_picture 51 = some ((some .int), .iastore, (0, 0, 0, 0, 0, .null)) := rfl
theorem s_M_picture_51 {ls : am_L} {st : List Value} {σ : am_H} {Q : Option Value → am_H → Prop} {a : Nat} {j x : Int32} : ax k_M_picture 51 ls (.int x :: .int j :: .ref a :: st) σ Q = ax_f (am_j σ a) (fun q => q.1 = 0 ∧ am_ix j q.2.1 ∧ a < am_top ∧ ax k_M_picture 52 ls st (am_set σ a (am_ia 0 q.2.1 (upd q.2.2 j.toNatClampNeg x))) Q) := rv_iast f_M_picture_51 rfl
theorem f_M_picture_52 : am_cd k_M_picture 52 = some ((some .int), .aload_n 0, (0, 0, 0, 0, 0, .null)) := rfl
theorem s_M_picture_52 {a1 a2 a3 a4 a5 a6 : Option Value} {st : List Value} {σ : am_H} {Q : Option Value → am_H → Prop} {x : Nat} : ax k_M_picture 52 [some (.ref x), a1, a2, a3, a4, a5, a6] st σ Q = ax k_M_picture 53 [some (.ref x), a1, a2, a3, a4, a5, a6] (.ref x :: st) σ Q := ru_loc (q := (_, _)) f_M_picture_52 rfl rfl rfl
theorem f_M_picture_53 : am_cd k_M_picture 53 = some ((some .int), .getfield 22, (11, 9, 926, 0, 3, .null)) := rfl
theorem s_M_picture_53 {ls : am_L} {st : List Value} {σ : am_H} {Q : Option Value → am_H → Prop} {a : Nat} : ax k_M_picture 53 ls (.ref a :: st) σ Q = ax_f (am_fld σ a 11 9) (fun v => ax k_M_picture 56 ls (v :: st) σ Q) := ru_getf f_M_picture_53 rfl
theorem f_M_picture_56 : am_cd k_M_picture 56 = some ((some .int), .aload_n 0, (0, 0, 0, 0, 0, .null)) := rfl
theorem s_M_picture_56 {a1 a2 a3 a4 a5 a6 : Option Value} {st : List Value} {σ : am_H} {Q : Option Value → am_H → Prop} {x : Nat} : ax k_M_picture 56 [some (.ref x), a1, a2, a3, a4, a5, a6] st σ Q = ax k_M_picture 57 [some (.ref x), a1, a2, a3, a4, a5, a6] (.ref x :: st) σ Q := ru_loc (q := (_, _)) f_M_picture_56 rfl rfl rfl
theorem f_M_picture_57 : am_cd k_M_picture 57 = some ((some .int), .getfield 158, (11, 7, 924, 0, 0, .null)) := rfl
theorem s_M_picture_57 {ls : am_L} {st : List Value} {σ : am_H} {Q : Option Value → am_H → Prop} {a : Nat} : ax k_M_picture 57 ls (.ref a :: st) σ Q = ax_f (am_fld σ a 11 7) (fun v => ax k_M_picture 60 ls (v :: st) σ Q) := ru_getf f_M_picture_57 rfl
theorem f_M_picture_60 : am_cd k_M_picture 60 = some ((some .int), .iload_n 2, (0, 0, 0, 0, 0, .null)) := rfl
theorem s_M_picture_60 {a0 a1 a3 a4 a5 a6 : Option Value} {st : List Value} {σ : am_H} {Q : Option Value → am_H → Prop} {x : Int32} : ax k_M_picture 60 [a0, a1, some (.int x), a3, a4, a5, a6] st σ Q = ax k_M_picture 61 [a0, a1, some (.int x), a3, a4, a5, a6] (.int x :: st) σ Q := ru_loc (q := (_, _)) f_M_picture_60 rfl rfl rfl
theorem f_M_picture_61 : am_cd k_M_picture 61 = some ((some .int), .iastore, (0, 0, 0, 0, 0, .null)) := rfl
theorem s_M_picture_61 {ls : am_L} {st : List Value} {σ : am_H} {Q : Option Value → am_H → Prop} {a : Nat} {j x : Int32} : ax k_M_picture 61 ls (.int x :: .int j :: .ref a :: st) σ Q = ax_f (am_j σ a) (fun q => q.1 = 0 ∧ am_ix j q.2.1 ∧ a < am_top ∧ ax k_M_picture 62 ls st (am_set σ a (am_ia 0 q.2.1 (upd q.2.2 j.toNatClampNeg x))) Q) := rv_iast f_M_picture_61 rfl
theorem f_M_picture_62 : am_cd k_M_picture 62 = some ((some .int), .aload_n 0, (0, 0, 0, 0, 0, .null)) := rfl
theorem s_M_picture_62 {a1 a2 a3 a4 a5 a6 : Option Value} {st : List Value} {σ : am_H} {Q : Option Value → am_H → Prop} {x : Nat} : ax k_M_picture 62 [some (.ref x), a1, a2, a3, a4, a5, a6] st σ Q = ax k_M_picture 63 [some (.ref x), a1, a2, a3, a4, a5, a6] (.ref x :: st) σ Q := ru_loc (q := (_, _)) f_M_picture_62 rfl rfl rfl
theorem f_M_picture_63 : am_cd k_M_picture 63 = some ((some .int), .getfield 28, (11, 11, 928, 0, 3, .null)) := rfl
theorem s_M_picture_63 {ls : am_L} {st : List Value} {σ : am_H} {Q : Option Value → am_H → Prop} {a : Nat} : ax k_M_picture 63 ls (.ref a :: st) σ Q = ax_f (am_fld σ a 11 11) (fun v => ax k_M_picture 66 ls (v :: st) σ Q) := ru_getf f_M_picture_63 rfl
theorem f_M_picture_66 : am_cd k_M_picture 66 = some ((some .int), .aload_n 0, (0, 0, 0, 0, 0, .null)) := rfl
theorem s_M_picture_66 {a1 a2 a3 a4 a5 a6 : Option Value} {st : List Value} {σ : am_H} {Q : Option Value → am_H → Prop} {x : Nat} : ax k_M_picture 66 [some (.ref x), a1, a2, a3, a4, a5, a6] st σ Q = ax k_M_picture 67 [some (.ref x), a1, a2, a3, a4, a5, a6] (.ref x :: st) σ Q := ru_loc (q := (_, _)) f_M_picture_66 rfl rfl rfl
theorem f_M_picture_67 : am_cd k_M_picture 67 = some ((some .int), .getfield 158, (11, 7, 924, 0, 0, .null)) := rfl
theorem s_M_picture_67 {ls : am_L} {st : List Value} {σ : am_H} {Q : Option Value → am_H → Prop} {a : Nat} : ax k_M_picture 67 ls (.ref a :: st) σ Q = ax_f (am_fld σ a 11 7) (fun v => ax k_M_picture 70 ls (v :: st) σ Q) := ru_getf f_M_picture_67 rfl
theorem f_M_picture_70 : am_cd k_M_picture 70 = some ((some .int), .iload 5, (0, 0, 0, 0, 0, .null)) := rfl
theorem s_M_picture_70 {a0 a1 a2 a3 a4 a6 : Option Value} {st : List Value} {σ : am_H} {Q : Option Value → am_H → Prop} {x : Int32} : ax k_M_picture 70 [a0, a1, a2, a3, a4, some (.int x), a6] st σ Q = ax k_M_picture 72 [a0, a1, a2, a3, a4, some (.int x), a6] (.int x :: st) σ Q := ru_loc (q := (_, _)) f_M_picture_70 rfl rfl rfl
theorem f_M_picture_72 : am_cd k_M_picture 72 = some ((some .int), .iastore, (0, 0, 0, 0, 0, .null)) := rfl
theorem s_M_picture_72 {ls : am_L} {st : List Value} {σ : am_H} {Q : Option Value → am_H → Prop} {a : Nat} {j x : Int32} : ax k_M_picture 72 ls (.int x :: .int j :: .ref a :: st) σ Q = ax_f (am_j σ a) (fun q => q.1 = 0 ∧ am_ix j q.2.1 ∧ a < am_top ∧ ax k_M_picture 73 ls st (am_set σ a (am_ia 0 q.2.1 (upd q.2.2 j.toNatClampNeg x))) Q) := rv_iast f_M_picture_72 rfl
theorem f_M_picture_73 : am_cd k_M_picture 73 = some ((some .int), .aload_n 0, (0, 0, 0, 0, 0, .null)) := rfl
theorem s_M_picture_73 {a1 a2 a3 a4 a5 a6 : Option Value} {st : List Value} {σ : am_H} {Q : Option Value → am_H → Prop} {x : Nat} : ax k_M_picture 73 [some (.ref x), a1, a2, a3, a4, a5, a6] st σ Q = ax k_M_picture 74 [some (.ref x), a1, a2, a3, a4, a5, a6] (.ref x :: st) σ Q := ru_loc (q := (_, _)) f_M_picture_73 rfl rfl rfl
theorem f_M_picture_74 : am_cd k_M_picture 74 = some ((some .int), .getfield 25, (11, 10, 927, 0, 3, .null)) := rfl
theorem s_M_picture_74 {ls : am_L} {st : List Value} {σ : am_H} {Q : Option Value → am_H → Prop} {a : Nat} : ax k_M_picture 74 ls (.ref a :: st) σ Q = ax_f (am_fld σ a 11 10) (fun v => ax k_M_picture 77 ls (v :: st) σ Q) := ru_getf f_M_picture_74 rfl
theorem f_M_picture_77 : am_cd k_M_picture 77 = some ((some .int), .aload_n 0, (0, 0, 0, 0, 0, .null)) := rfl
theorem s_M_picture_77 {a1 a2 a3 a4 a5 a6 : Option Value} {st : List Value} {σ : am_H} {Q : Option Value → am_H → Prop} {x : Nat} : ax k_M_picture 77 [some (.ref x), a1, a2, a3, a4, a5, a6] st σ Q = ax k_M_picture 78 [some (.ref x), a1, a2, a3, a4, a5, a6] (.ref x :: st) σ Q := ru_loc (q := (_, _)) f_M_picture_77 rfl rfl rfl
theorem f_M_picture_78 : am_cd k_M_picture 78 = some ((some .int), .getfield 158, (11, 7, 924, 0, 0, .null)) := rfl
theorem s_M_picture_78 {ls : am_L} {st : List Value} {σ : am_H} {Q : Option Value → am_H → Prop} {a : Nat} : ax k_M_picture 78 ls (.ref a :: st) σ Q = ax_f (am_fld σ a 11 7) (fun v => ax k_M_picture 81 ls (v :: st) σ Q) := ru_getf f_M_picture_78 rfl
theorem f_M_picture_81 : am_cd k_M_picture 81 = some ((some .int), .aload_n 0, (0, 0, 0, 0, 0, .null)) := rfl
theorem s_M_picture_81 {a1 a2 a3 a4 a5 a6 : Option Value} {st : List Value} {σ : am_H} {Q : Option Value → am_H → Prop} {x : Nat} : ax k_M_picture 81 [some (.ref x), a1, a2, a3, a4, a5, a6] st σ Q = ax k_M_picture 82 [some (.ref x), a1, a2, a3, a4, a5, a6] (.ref x :: st) σ Q := ru_loc (q := (_, _)) f_M_picture_81 rfl rfl rfl
theorem f_M_picture_82 : am_cd k_M_picture 82 = some ((some .int), .getfield 161, (11, 0, 917, 0, 0, .null)) := rfl
theorem s_M_picture_82 {ls : am_L} {st : List Value} {σ : am_H} {Q : Option Value → am_H → Prop} {a : Nat} : ax k_M_picture 82 ls (.ref a :: st) σ Q = ax_f (am_fld σ a 11 0) (fun v => ax k_M_picture 85 ls (v :: st) σ Q) := ru_getf f_M_picture_82 rfl
theorem f_M_picture_85 : am_cd k_M_picture 85 = some ((some .int), .iastore, (0, 0, 0, 0, 0, .null)) := rfl
theorem s_M_picture_85 {ls : am_L} {st : List Value} {σ : am_H} {Q : Option Value → am_H → Prop} {a : Nat} {j x : Int32} : ax k_M_picture 85 ls (.int x :: .int j :: .ref a :: st) σ Q = ax_f (am_j σ a) (fun q => q.1 = 0 ∧ am_ix j q.2.1 ∧ a < am_top ∧ ax k_M_picture 86 ls st (am_set σ a (am_ia 0 q.2.1 (upd q.2.2 j.toNatClampNeg x))) Q) := rv_iast f_M_picture_85 rfl
theorem f_M_picture_86 : am_cd k_M_picture 86 = some ((some .int), .iconst 0, (0, 0, 0, 0, 0, .null)) := rfl
theorem s_M_picture_86 {ls : am_L} {st : List Value} {σ : am_H} {Q : Option Value → am_H → Prop} : ax k_M_picture 86 ls st σ Q = ax k_M_picture 87 ls (.int 0 :: st) σ Q := ru_iconst f_M_picture_86 (by decide +kernel) rfl
theorem f_M_picture_87 : am_cd k_M_picture 87 = some ((some .int), .istore 6, (0, 0, 0, 0, 0, .null)) := rfl
theorem s_M_picture_87 {a0 a1 a2 a3 a4 a5 a6 : Option Value} {st : List Value} {σ : am_H} {Q : Option Value → am_H → Prop} {x : Int32} (hc : am_c2 a5 = false) : ax k_M_picture 87 [a0, a1, a2, a3, a4, a5, a6] (.int x :: st) σ Q = ax k_M_picture 89 [a0, a1, a2, a3, a4, a5, some (.int x)] st σ Q := ru_istore f_M_picture_87 (Nat.le_of_ble_eq_true rfl) (ru_st1 (Nat.le_of_ble_eq_true rfl) (am_clr_c2 hc rfl) rfl) rfl
theorem f_M_picture_89 : am_cd k_M_picture 89 = some ((some .int), .iload 6, (0, 0, 0, 0, 0, .null)) := rfl
theorem s_M_picture_89 {a0 a1 a2 a3 a4 a5 : Option Value} {st : List Value} {σ : am_H} {Q : Option Value → am_H → Prop} {x : Int32} : ax k_M_picture 89 [a0, a1, a2, a3, a4, a5, some (.int x)] st σ Q = ax k_M_picture 91 [a0, a1, a2, a3, a4, a5, some (.int x)] (.int x :: st) σ Q := ru_loc (q := (_, _)) f_M_picture_89 rfl rfl rfl
theorem f_M_picture_91 : am_cd k_M_picture 91 = some ((some .int), .bipush 16, (0, 0, 0, 0, 0, .null)) := rfl
theorem s_M_picture_91 {ls : am_L} {st : List Value} {σ : am_H} {Q : Option Value → am_H → Prop} : ax k_M_picture 91 ls st σ Q = ax k_M_picture 93 ls (.int 16 :: st) σ Q := ru_bipush f_M_picture_91 (by decide +kernel) rfl
theorem f_M_picture_93 : am_cd k_M_picture 93 = some ((some .int), .if_icmp .ge 35, (128, 0, 0, 0, 0, .null)) := rfl
theorem s_M_picture_93 {ls : am_L} {st : List Value} {σ : am_H} {Q : Option Value → am_H → Prop} {x y : Int32} : ax k_M_picture 93 ls (.int y :: .int x :: st) σ Q = (if x < y then ax k_M_picture 96 ls st σ Q else ax k_M_picture 128 ls st σ Q) := (ru_icmp f_M_picture_93 rfl).trans (ru_i_ge _ _ _ _)
theorem f_M_picture_96 : am_cd k_M_picture 96 = some ((some .int), .aload_n 0, (0, 0, 0, 0, 0, .null)) := rfl
theorem s_M_picture_96 {a1 a2 a3 a4 a5 a6 : Option Value} {st : List Value} {σ : am_H} {Q : Option Value → am_H → Prop} {x : Nat} : ax k_M_picture 96 [some (.ref x), a1, a2, a3, a4, a5, a6] st σ Q = ax k_M_picture 97 [some (.ref x), a1, a2, a3, a4, a5, a6] (.ref x :: st) σ Q := ru_loc (q := (_, _)) f_M_picture_96 rfl rfl rfl
theorem f_M_picture_97 : am_cd k_M_picture 97 = some ((some .int), .getfield 31, (11, 12, 929, 0, 3, .null)) := rfl
theorem s_M_picture_97 {ls : am_L} {st : List Value} {σ : am_H} {Q : Option Value → am_H → Prop} {a : Nat} : ax k_M_picture 97 ls (.ref a :: st) σ Q = ax_f (am_fld σ a 11 12) (fun v => ax k_M_picture 100 ls (v :: st) σ Q) := ru_getf f_M_picture_97 rfl
theorem f_M_picture_100 : am_cd k_M_picture 100 = some ((some .int), .bipush 16, (0, 0, 0, 0, 0, .null)) := rfl
theorem s_M_picture_100 {ls : am_L} {st : List Value} {σ : am_H} {Q : Option Value → am_H → Prop} : ax k_M_picture 100 ls st σ Q = ax k_M_picture 102 ls (.int 16 :: st) σ Q := ru_bipush f_M_picture_100 (by decide +kernel) rfl
theorem f_M_picture_102 : am_cd k_M_picture 102 = some ((some .int), .aload_n 0, (0, 0, 0, 0, 0, .null)) := rfl
theorem s_M_picture_102 {a1 a2 a3 a4 a5 a6 : Option Value} {st : List Value} {σ : am_H} {Q : Option Value → am_H → Prop} {x : Nat} : ax k_M_picture 102 [some (.ref x), a1, a2, a3, a4, a5, a6] st σ Q = ax k_M_picture 103 [some (.ref x), a1, a2, a3, a4, a5, a6] (.ref x :: st) σ Q := ru_loc (q := (_, _)) f_M_picture_102 rfl rfl rfl
theorem f_M_picture_103 : am_cd k_M_picture 103 = some ((some .int), .getfield 158, (11, 7, 924, 0, 0, .null)) := rfl
theorem s_M_picture_103 {ls : am_L} {st : List Value} {σ : am_H} {Q : Option Value → am_H → Prop} {a : Nat} : ax k_M_picture 103 ls (.ref a :: st) σ Q = ax_f (am_fld σ a 11 7) (fun v => ax k_M_picture 106 ls (v :: st) σ Q) := ru_getf f_M_picture_103 rfl
theorem f_M_picture_106 : am_cd k_M_picture 106 = some ((some .int), .imul, (0, 0, 0, 0, 0, .null)) := rfl
theorem s_M_picture_106 {ls : am_L} {st : List Value} {σ : am_H} {Q : Option Value → am_H → Prop} {x y : Int32} : ax k_M_picture 106 ls (.int y :: .int x :: st) σ Q = ax k_M_picture 107 ls (.int (x * y) :: st) σ Q := ru_pure f_M_picture_106 rfl rfl
theorem f_M_picture_107 : am_cd k_M_picture 107 = some ((some .int), .iload 6, (0, 0, 0, 0, 0, .null)) := rfl
theorem s_M_picture_107 {a0 a1 a2 a3 a4 a5 : Option Value} {st : List Value} {σ : am_H} {Q : Option Value → am_H → Prop} {x : Int32} : ax k_M_picture 107 [a0, a1, a2, a3, a4, a5, some (.int x)] st σ Q = ax k_M_picture 109 [a0, a1, a2, a3, a4, a5, some (.int x)] (.int x :: st) σ Q := ru_loc (q := (_, _)) f_M_picture_107 rfl rfl rfl
theorem f_M_picture_109 : am_cd k_M_picture 109 = some ((some .int), .iadd, (0, 0, 0, 0, 0, .null)) := rfl
theorem s_M_picture_109 {ls : am_L} {st : List Value} {σ : am_H} {Q : Option Value → am_H → Prop} {x y : Int32} : ax k_M_picture 109 ls (.int y :: .int x :: st) σ Q = ax k_M_picture 110 ls (.int (x + y) :: st) σ Q := ru_pure f_M_picture_109 rfl rfl
theorem f_M_picture_110 : am_cd k_M_picture 110 = some ((some .int), .lload_n 3, (0, 0, 0, 0, 0, .null)) := rfl
theorem s_M_picture_110 {a0 a1 a2 a4 a5 a6 : Option Value} {st : List Value} {σ : am_H} {Q : Option Value → am_H → Prop} {x : Int64} : ax k_M_picture 110 [a0, a1, a2, some (.long x), a4, a5, a6] st σ Q = ax k_M_picture 111 [a0, a1, a2, some (.long x), a4, a5, a6] (.long x :: st) σ Q := ru_loc (q := (_, _)) f_M_picture_110 rfl rfl rfl
theorem f_M_picture_111 : am_cd k_M_picture 111 = some ((some .int), .iconst 4, (0, 0, 0, 0, 0, .null)) := rfl
theorem s_M_picture_111 {ls : am_L} {st : List Value} {σ : am_H} {Q : Option Value → am_H → Prop} : ax k_M_picture 111 ls st σ Q = ax k_M_picture 112 ls (.int 4 :: st) σ Q := ru_iconst f_M_picture_111 (by decide +kernel) rfl
theorem f_M_picture_112 : am_cd k_M_picture 112 = some ((some .int), .iload 6, (0, 0, 0, 0, 0, .null)) := rfl
theorem s_M_picture_112 {a0 a1 a2 a3 a4 a5 : Option Value} {st : List Value} {σ : am_H} {Q : Option Value → am_H → Prop} {x : Int32} : ax k_M_picture 112 [a0, a1, a2, a3, a4, a5, some (.int x)] st σ Q = ax k_M_picture 114 [a0, a1, a2, a3, a4, a5, some (.int x)] (.int x :: st) σ Q := ru_loc (q := (_, _)) f_M_picture_112 rfl rfl rfl
theorem f_M_picture_114 : am_cd k_M_picture 114 = some ((some .int), .imul, (0, 0, 0, 0, 0, .null)) := rfl
theorem s_M_picture_114 {ls : am_L} {st : List Value} {σ : am_H} {Q : Option Value → am_H → Prop} {x y : Int32} : ax k_M_picture 114 ls (.int y :: .int x :: st) σ Q = ax k_M_picture 115 ls (.int (x * y) :: st) σ Q := ru_pure f_M_picture_114 rfl rfl
theorem f_M_picture_115 : am_cd k_M_picture 115 = some ((some .int), .lshr, (0, 0, 0, 0, 0, .null)) := rfl
theorem s_M_picture_115 {ls : am_L} {st : List Value} {σ : am_H} {Q : Option Value → am_H → Prop} {x : Int64} {y : Int32} : ax k_M_picture 115 ls (.int y :: .long x :: st) σ Q = ax k_M_picture 116 ls (.long (x >>> (y.toInt64 &&& 63)) :: st) σ Q := ru_pure f_M_picture_115 rfl rfl
theorem f_M_picture_116 : am_cd k_M_picture 116 = some ((some .int), .ldc2_w 190, (0, 0, 1150, 0, 0, .long (15))) := rfl
theorem s_M_picture_116 {ls : am_L} {st : List Value} {σ : am_H} {Q : Option Value → am_H → Prop} : ax k_M_picture 116 ls st σ Q = ax k_M_picture 119 ls (.long (15) :: st) σ Q := ru_rd f_M_picture_116 rfl rfl rfl rfl rfl
theorem f_M_picture_119 : am_cd k_M_picture 119 = some ((some .int), .land, (0, 0, 0, 0, 0, .null)) := rfl
theorem s_M_picture_119 {ls : am_L} {st : List Value} {σ : am_H} {Q : Option Value → am_H → Prop} {x y : Int64} : ax k_M_picture 119 ls (.long y :: .long x :: st) σ Q = ax k_M_picture 120 ls (.long (x &&& y) :: st) σ Q := ru_pure f_M_picture_119 rfl rfl
theorem f_M_picture_120 : am_cd k_M_picture 120 = some ((some .int), .l2i, (0, 0, 0, 0, 0, .null)) := rfl
theorem s_M_picture_120 {ls : am_L} {st : List Value} {σ : am_H} {Q : Option Value → am_H → Prop} {x : Int64} : ax k_M_picture 120 ls (.long x :: st) σ Q = ax k_M_picture 121 ls (.int x.toInt32 :: st) σ Q := ru_pure f_M_picture_120 rfl rfl
theorem f_M_picture_121 : am_cd k_M_picture 121 = some ((some .int), .iastore, (0, 0, 0, 0, 0, .null)) := rfl
theorem s_M_picture_121 {ls : am_L} {st : List Value} {σ : am_H} {Q : Option Value → am_H → Prop} {a : Nat} {j x : Int32} : ax k_M_picture 121 ls (.int x :: .int j :: .ref a :: st) σ Q = ax_f (am_j σ a) (fun q => q.1 = 0 ∧ am_ix j q.2.1 ∧ a < am_top ∧ ax k_M_picture 122 ls st (am_set σ a (am_ia 0 q.2.1 (upd q.2.2 j.toNatClampNeg x))) Q) := rv_iast f_M_picture_121 rfl
theorem f_M_picture_122 : am_cd k_M_picture 122 = some ((some .int), .iinc 6 1, (0, 0, 0, 0, 0, .null)) := rfl
theorem s_M_picture_122 {a0 a1 a2 a3 a4 a5 : Option Value} {st : List Value} {σ : am_H} {Q : Option Value → am_H → Prop} {x : Int32} (hc : am_c2 a5 = false) : ax k_M_picture 122 [a0, a1, a2, a3, a4, a5, some (.int x)] st σ Q = ax k_M_picture 125 [a0, a1, a2, a3, a4, a5, some (.int (x + 1))] st σ Q := ru_iinc f_M_picture_122 rfl (Nat.le_of_ble_eq_true rfl) (by decide +kernel) (ru_st1 (Nat.le_of_ble_eq_true rfl) (am_clr_c2 hc rfl) rfl) rfl
theorem f_M_picture_125 : am_cd k_M_picture 125 = some ((some .int), .goto (-36), (89, 0, 0, 0, 0, .null)) := rfl
theorem s_M_picture_125 {ls : am_L} {st : List Value} {σ : am_H} {Q : Option Value → am_H → Prop} : ax k_M_picture 125 ls st σ Q = ax k_M_picture 89 ls st σ Q := ru_goto f_M_picture_125
theorem f_M_picture_128 : am_cd k_M_picture 128 = some ((some .int), .aload_n 0, (0, 0, 0, 0, 0, .null)) := rfl
theorem s_M_picture_128 {a1 a2 a3 a4 a5 a6 : Option Value} {st : List Value} {σ : am_H} {Q : Option Value → am_H → Prop} {x : Nat} : ax k_M_picture 128 [some (.ref x), a1, a2, a3, a4, a5, a6] st σ Q = ax k_M_picture 129 [some (.ref x), a1, a2, a3, a4, a5, a6] (.ref x :: st) σ Q := ru_loc (q := (_, _)) f_M_picture_128 rfl rfl rfl
theorem f_M_picture_129 : am_cd k_M_picture 129 = some ((some .int), .dup, (0, 0, 0, 0, 0, .null)) := rfl
theorem s_M_picture_129 {ls : am_L} {st : List Value} {σ : am_H} {Q : Option Value → am_H → Prop} {a : Nat} : ax k_M_picture 129 ls (.ref a :: st) σ Q = ax k_M_picture 130 ls (.ref a :: .ref a :: st) σ Q := ru_pure f_M_picture_129 rfl rfl
theorem f_M_picture_130 : am_cd k_M_picture 130 = some ((some .int), .getfield 158, (11, 7, 924, 0, 0, .null)) := rfl
theorem s_M_picture_130 {ls : am_L} {st : List Value} {σ : am_H} {Q : Option Value → am_H → Prop} {a : Nat} : ax k_M_picture 130 ls (.ref a :: st) σ Q = ax_f (am_fld σ a 11 7) (fun v => ax k_M_picture 133 ls (v :: st) σ Q) := ru_getf f_M_picture_130 rfl
theorem f_M_picture_133 : am_cd k_M_picture 133 = some ((some .int), .iconst 1, (0, 0, 0, 0, 0, .null)) := rfl
theorem s_M_picture_133 {ls : am_L} {st : List Value} {σ : am_H} {Q : Option Value → am_H → Prop} : ax k_M_picture 133 ls st σ Q = ax k_M_picture 134 ls (.int 1 :: st) σ Q := ru_iconst f_M_picture_133 (by decide +kernel) rfl
theorem f_M_picture_134 : am_cd k_M_picture 134 = some ((some .int), .iadd, (0, 0, 0, 0, 0, .null)) := rfl
theorem s_M_picture_134 {ls : am_L} {st : List Value} {σ : am_H} {Q : Option Value → am_H → Prop} {x y : Int32} : ax k_M_picture 134 ls (.int y :: .int x :: st) σ Q = ax k_M_picture 135 ls (.int (x + y) :: st) σ Q := ru_pure f_M_picture_134 rfl rfl
theorem f_M_picture_135 : am_cd k_M_picture 135 = some ((some .int), .putfield 158, (11, 7, 924, 0, 0, .null)) := rfl
theorem s_M_picture_135 {ls : am_L} {st : List Value} {σ : am_H} {Q : Option Value → am_H → Prop} {a : Nat} {v : Value} : ax k_M_picture 135 ls (v :: .ref a :: st) σ Q = ax_f (am_fld σ a 11 7) (fun _ => a < am_top ∧ am_okv 0 v = true ∧ ax k_M_picture 138 ls st (am_put σ a 7 v) Q) := ru_putf f_M_picture_135 rfl
theorem f_M_picture_138 : am_cd k_M_picture 138 = some ((some .int), .aload_n 0, (0, 0, 0, 0, 0, .null)) := rfl
theorem s_M_picture_138 {a1 a2 a3 a4 a5 a6 : Option Value} {st : List Value} {σ : am_H} {Q : Option Value → am_H → Prop} {x : Nat} : ax k_M_picture 138 [some (.ref x), a1, a2, a3, a4, a5, a6] st σ Q = ax k_M_picture 139 [some (.ref x), a1, a2, a3, a4, a5, a6] (.ref x :: st) σ Q := ru_loc (q := (_, _)) f_M_picture_138 rfl rfl rfl
theorem f_M_picture_139 : am_cd k_M_picture 139 = some ((some .int), .getfield 158, (11, 7, 924, 0, 0, .null)) := rfl
theorem s_M_picture_139 {ls : am_L} {st : List Value} {σ : am_H} {Q : Option Value → am_H → Prop} {a : Nat} : ax k_M_picture 139 ls (.ref a :: st) σ Q = ax_f (am_fld σ a 11 7) (fun v => ax k_M_picture 142 ls (v :: st) σ Q) := ru_getf f_M_picture_139 rfl
theorem f_M_picture_142 : am_cd k_M_picture 142 = some ((some .int), .iconst 1, (0, 0, 0, 0, 0, .null)) := rfl
theorem s_M_picture_142 {ls : am_L} {st : List Value} {σ : am_H} {Q : Option Value → am_H → Prop} : ax k_M_picture 142 ls st σ Q = ax k_M_picture 143 ls (.int 1 :: st) σ Q := ru_iconst f_M_picture_142 (by decide +kernel) rfl
theorem f_M_picture_143 : am_cd k_M_picture 143 = some ((some .int), .isub, (0, 0, 0, 0, 0, .null)) := rfl
theorem s_M_picture_143 {ls : am_L} {st : List Value} {σ : am_H} {Q : Option Value → am_H → Prop} {x y : Int32} : ax k_M_picture 143 ls (.int y :: .int x :: st) σ Q = ax k_M_picture 144 ls (.int (x - y) :: st) σ Q := ru_pure f_M_picture_143 rfl rfl
theorem f_M_picture_144 : am_cd k_M_picture 144 = some ((some .int), .ireturn, (0, 0, 0, 0, 0, .null)) := rfl
theorem s_M_picture_144 {ls : am_L} {σ : am_H} {Q : Option Value → am_H → Prop} {v : Int32} : ax k_M_picture 144 ls [.int v] σ Q = Q (some (.int v)) σ := ru_iretI f_M_picture_144
theorem f_M_hasJust_0 : am_cd k_M_hasJust 0 = some ((some .boolean), .iconst 0, (0, 0, 0, 0, 0, .null)) := rfl
theorem s_M_hasJust_0 {ls : am_L} {st : List Value} {σ : am_H} {Q : Option Value → am_H → Prop} : ax k_M_hasJust 0 ls st σ Q = ax k_M_hasJust 1 ls (.int 0 :: st) σ Q := ru_iconst f_M_hasJust_0 (by decide +kernel) rfl
theorem f_M_hasJust_1 : am_cd k_M_hasJust 1 = some ((some .boolean), .istore 5, (0, 0, 0, 0, 0, .null)) := rfl
theorem s_M_hasJust_1 {a0 a1 a2 a3 a4 a5 a6 : Option Value} {st : List Value} {σ : am_H} {Q : Option Value → am_H → Prop} {x : Int32} (hc : am_c2 a4 = false) : ax k_M_hasJust 1 [a0, a1, a2, a3, a4, a5, a6] (.int x :: st) σ Q = ax k_M_hasJust 3 [a0, a1, a2, a3, a4, some (.int x), a6] st σ Q := ru_istore f_M_hasJust_1 (Nat.le_of_ble_eq_true rfl) (ru_st1 (Nat.le_of_ble_eq_true rfl) (am_clr_c2 hc rfl) rfl) rfl
theorem f_M_hasJust_3 : am_cd k_M_hasJust 3 = some ((some .boolean), .iconst 0, (0, 0, 0, 0, 0, .null)) := rfl
theorem s_M_hasJust_3 {ls : am_L} {st : List Value} {σ : am_H} {Q : Option Value → am_H → Prop} : ax k_M_hasJust 3 ls st σ Q = ax k_M_hasJust 4 ls (.int 0 :: st) σ Q := ru_iconst f_M_hasJust_3 (by decide +kernel) rfl
theorem f_M_hasJust_4 : am_cd k_M_hasJust 4 = some ((some .boolean), .istore 6, (0, 0, 0, 0, 0, .null)) := rfl
theorem s_M_hasJust_4 {a0 a1 a2 a3 a4 a5 a6 : Option Value} {st : List Value} {σ : am_H} {Q : Option Value → am_H → Prop} {x : Int32} (hc : am_c2 a5 = false) : ax k_M_hasJust 4 [a0, a1, a2, a3, a4, a5, a6] (.int x :: st) σ Q = ax k_M_hasJust 6 [a0, a1, a2, a3, a4, a5, some (.int x)] st σ Q := ru_istore f_M_hasJust_4 (Nat.le_of_ble_eq_true rfl) (ru_st1 (Nat.le_of_ble_eq_true rfl) (am_clr_c2 hc rfl) rfl) rfl
theorem f_M_hasJust_6 : am_cd k_M_hasJust 6 = some ((some .boolean), .iload 6, (0, 0, 0, 0, 0, .null)) := rfl
theorem s_M_hasJust_6 {a0 a1 a2 a3 a4 a5 : Option Value} {st : List Value} {σ : am_H} {Q : Option Value → am_H → Prop} {x : Int32} : ax k_M_hasJust 6 [a0, a1, a2, a3, a4, a5, some (.int x)] st σ Q = ax k_M_hasJust 8 [a0, a1, a2, a3, a4, a5, some (.int x)] (.int x :: st) σ Q := ru_loc (q := (_, _)) f_M_hasJust_6 rfl rfl rfl
theorem f_M_hasJust_8 : am_cd k_M_hasJust 8 = some ((some .boolean), .aload_n 0, (0, 0, 0, 0, 0, .null)) := rfl
theorem s_M_hasJust_8 {a1 a2 a3 a4 a5 a6 : Option Value} {st : List Value} {σ : am_H} {Q : Option Value → am_H → Prop} {x : Nat} : ax k_M_hasJust 8 [some (.ref x), a1, a2, a3, a4, a5, a6] st σ Q = ax k_M_hasJust 9 [some (.ref x), a1, a2, a3, a4, a5, a6] (.ref x :: st) σ Q := ru_loc (q := (_, _)) f_M_hasJust_8 rfl rfl rfl
theorem f_M_hasJust_9 : am_cd k_M_hasJust 9 = some ((some .boolean), .getfield 192, (11, 13, 930, 0, 0, .null)) := rfl
theorem s_M_hasJust_9 {ls : am_L} {st : List Value} {σ : am_H} {Q : Option Value → am_H → Prop} {a : Nat} : ax k_M_hasJust 9 ls (.ref a :: st) σ Q = ax_f (am_fld σ a 11 13) (fun v => ax k_M_hasJust 12 ls (v :: st) σ Q) := ru_getf f_M_hasJust_9 rfl
theorem f_M_hasJust_12 : am_cd k_M_hasJust 12 = some ((some .boolean), .if_icmp .ge 69, (81, 0, 0, 0, 0, .null)) := rfl
theorem s_M_hasJust_12 {ls : am_L} {st : List Value} {σ : am_H} {Q : Option Value → am_H → Prop} {x y : Int32} : ax k_M_hasJust 12 ls (.int y :: .int x :: st) σ Q = (if x < y then ax k_M_hasJust 15 ls st σ Q else ax k_M_hasJust 81 ls st σ Q) := (ru_icmp f_M_hasJust_12 rfl).trans (ru_i_ge _ _ _ _)
theorem f_M_hasJust_15 : am_cd k_M_hasJust 15 = some ((some .boolean), .aload_n 0, (0, 0, 0, 0, 0, .null)) := rfl
theorem s_M_hasJust_15 {a1 a2 a3 a4 a5 a6 : Option Value} {st : List Value} {σ : am_H} {Q : Option Value → am_H → Prop} {x : Nat} : ax k_M_hasJust 15 [some (.ref x), a1, a2, a3, a4, a5, a6] st σ Q = ax k_M_hasJust 16 [some (.ref x), a1, a2, a3, a4, a5, a6] (.ref x :: st) σ Q := ru_loc (q := (_, _)) f_M_hasJust_15 rfl rfl rfl
theorem f_M_hasJust_16 : am_cd k_M_hasJust 16 = some ((some .boolean), .getfield 34, (11, 14, 931, 0, 3, .null)) := rfl
theorem s_M_hasJust_16 {ls : am_L} {st : List Value} {σ : am_H} {Q : Option Value → am_H → Prop} {a : Nat} : ax k_M_hasJust 16 ls (.ref a :: st) σ Q = ax_f (am_fld σ a 11 14) (fun v => ax k_M_hasJust 19 ls (v :: st) σ Q) := ru_getf f_M_hasJust_16 rfl
theorem f_M_hasJust_19 : am_cd k_M_hasJust 19 = some ((some .boolean), .iload 6, (0, 0, 0, 0, 0, .null)) := rfl
theorem s_M_hasJust_19 {a0 a1 a2 a3 a4 a5 : Option Value} {st : List Value} {σ : am_H} {Q : Option Value → am_H → Prop} {x : Int32} : ax k_M_hasJust 19 [a0, a1, a2, a3, a4, a5, some (.int x)] st σ Q = ax k_M_hasJust 21 [a0, a1, a2, a3, a4, a5, some (.int x)] (.int x :: st) σ Q := ru_loc (q := (_, _)) f_M_hasJust_19 rfl rfl rfl
theorem f_M_hasJust_21 : am_cd k_M_hasJust 21 = some ((some .boolean), .iaload, (0, 0, 0, 0, 0, .null)) := rfl
theorem s_M_hasJust_21 {ls : am_L} {st : List Value} {σ : am_H} {Q : Option Value → am_H → Prop} {a : Nat} {j : Int32} : ax k_M_hasJust 21 ls (.int j :: .ref a :: st) σ Q = ax_f (am_j σ a) (fun q => q.1 = 0 ∧ am_ix j q.2.1 ∧ ax k_M_hasJust 22 ls (.int (q.2.2 j.toNatClampNeg) :: st) σ Q) := rv_iald f_M_hasJust_21 rfl
theorem f_M_hasJust_22 : am_cd k_M_hasJust 22 = some ((some .boolean), .iload_n 1, (0, 0, 0, 0, 0, .null)) := rfl
theorem s_M_hasJust_22 {a0 a2 a3 a4 a5 a6 : Option Value} {st : List Value} {σ : am_H} {Q : Option Value → am_H → Prop} {x : Int32} : ax k_M_hasJust 22 [a0, some (.int x), a2, a3, a4, a5, a6] st σ Q = ax k_M_hasJust 23 [a0, some (.int x), a2, a3, a4, a5, a6] (.int x :: st) σ Q := ru_loc (q := (_, _)) f_M_hasJust_22 rfl rfl rfl
theorem f_M_hasJust_23 : am_cd k_M_hasJust 23 = some ((some .boolean), .if_icmp .ne 52, (75, 0, 0, 0, 0, .null)) := rfl
theorem s_M_hasJust_23 {ls : am_L} {st : List Value} {σ : am_H} {Q : Option Value → am_H → Prop} {x y : Int32} : ax k_M_hasJust 23 ls (.int y :: .int x :: st) σ Q = (if x = y then ax k_M_hasJust 26 ls st σ Q else ax k_M_hasJust 75 ls st σ Q) := (ru_icmp f_M_hasJust_23 rfl).trans (ru_i_ne _ _ _ _)
theorem f_M_hasJust_26 : am_cd k_M_hasJust 26 = some ((some .boolean), .aload_n 0, (0, 0, 0, 0, 0, .null)) := rfl
theorem s_M_hasJust_26 {a1 a2 a3 a4 a5 a6 : Option Value} {st : List Value} {σ : am_H} {Q : Option Value → am_H → Prop} {x : Nat} : ax k_M_hasJust 26 [some (.ref x), a1, a2, a3, a4, a5, a6] st σ Q = ax k_M_hasJust 27 [some (.ref x), a1, a2, a3, a4, a5, a6] (.ref x :: st) σ Q := ru_loc (q := (_, _)) f_M_hasJust_26 rfl rfl rfl
theorem f_M_hasJust_27 : am_cd k_M_hasJust 27 = some ((some .boolean), .getfield 37, (11, 15, 932, 0, 3, .null)) := rfl
theorem s_M_hasJust_27 {ls : am_L} {st : List Value} {σ : am_H} {Q : Option Value → am_H → Prop} {a : Nat} : ax k_M_hasJust 27 ls (.ref a :: st) σ Q = ax_f (am_fld σ a 11 15) (fun v => ax k_M_hasJust 30 ls (v :: st) σ Q) := ru_getf f_M_hasJust_27 rfl
theorem f_M_hasJust_30 : am_cd k_M_hasJust 30 = some ((some .boolean), .iload 6, (0, 0, 0, 0, 0, .null)) := rfl
theorem s_M_hasJust_30 {a0 a1 a2 a3 a4 a5 : Option Value} {st : List Value} {σ : am_H} {Q : Option Value → am_H → Prop} {x : Int32} : ax k_M_hasJust 30 [a0, a1, a2, a3, a4, a5, some (.int x)] st σ Q = ax k_M_hasJust 32 [a0, a1, a2, a3, a4, a5, some (.int x)] (.int x :: st) σ Q := ru_loc (q := (_, _)) f_M_hasJust_30 rfl rfl rfl
theorem f_M_hasJust_32 : am_cd k_M_hasJust 32 = some ((some .boolean), .iaload, (0, 0, 0, 0, 0, .null)) := rfl
theorem s_M_hasJust_32 {ls : am_L} {st : List Value} {σ : am_H} {Q : Option Value → am_H → Prop} {a : Nat} {j : Int32} : ax k_M_hasJust 32 ls (.int j :: .ref a :: st) σ Q = ax_f (am_j σ a) (fun q => q.1 = 0 ∧ am_ix j q.2.1 ∧ ax k_M_hasJust 33 ls (.int (q.2.2 j.toNatClampNeg) :: st) σ Q) := rv_iald f_M_hasJust_32 rfl
theorem f_M_hasJust_33 : am_cd k_M_hasJust 33 = some ((some .boolean), .iload_n 2, (0, 0, 0, 0, 0, .null)) := rfl
theorem s_M_hasJust_33 {a0 a1 a3 a4 a5 a6 : Option Value} {st : List Value} {σ : am_H} {Q : Option Value → am_H → Prop} {x : Int32} : ax k_M_hasJust 33 [a0, a1, some (.int x), a3, a4, a5, a6] st σ Q = ax k_M_hasJust 34 [a0, a1, some (.int x), a3, a4, a5, a6] (.int x :: st) σ Q := ru_loc (q := (_, _)) f_M_hasJust_33 rfl rfl rfl
theorem f_M_hasJust_34 : am_cd k_M_hasJust 34 = some ((some .boolean), .if_icmp .ne 41, (75, 0, 0, 0, 0, .null)) := rfl
theorem s_M_hasJust_34 {ls : am_L} {st : List Value} {σ : am_H} {Q : Option Value → am_H → Prop} {x y : Int32} : ax k_M_hasJust 34 ls (.int y :: .int x :: st) σ Q = (if x = y then ax k_M_hasJust 37 ls st σ Q else ax k_M_hasJust 75 ls st σ Q) := (ru_icmp f_M_hasJust_34 rfl).trans (ru_i_ne _ _ _ _)
theorem f_M_hasJust_37 : am_cd k_M_hasJust 37 = some ((some .boolean), .aload_n 0, (0, 0, 0, 0, 0, .null)) := rfl
theorem s_M_hasJust_37 {a1 a2 a3 a4 a5 a6 : Option Value} {st : List Value} {σ : am_H} {Q : Option Value → am_H → Prop} {x : Nat} : ax k_M_hasJust 37 [some (.ref x), a1, a2, a3, a4, a5, a6] st σ Q = ax k_M_hasJust 38 [some (.ref x), a1, a2, a3, a4, a5, a6] (.ref x :: st) σ Q := ru_loc (q := (_, _)) f_M_hasJust_37 rfl rfl rfl
theorem f_M_hasJust_38 : am_cd k_M_hasJust 38 = some ((some .boolean), .getfield 40, (11, 16, 933, 0, 3, .null)) := rfl
theorem s_M_hasJust_38 {ls : am_L} {st : List Value} {σ : am_H} {Q : Option Value → am_H → Prop} {a : Nat} : ax k_M_hasJust 38 ls (.ref a :: st) σ Q = ax_f (am_fld σ a 11 16) (fun v => ax k_M_hasJust 41 ls (v :: st) σ Q) := ru_getf f_M_hasJust_38 rfl
theorem f_M_hasJust_41 : am_cd k_M_hasJust 41 = some ((some .boolean), .iload 6, (0, 0, 0, 0, 0, .null)) := rfl
theorem s_M_hasJust_41 {a0 a1 a2 a3 a4 a5 : Option Value} {st : List Value} {σ : am_H} {Q : Option Value → am_H → Prop} {x : Int32} : ax k_M_hasJust 41 [a0, a1, a2, a3, a4, a5, some (.int x)] st σ Q = ax k_M_hasJust 43 [a0, a1, a2, a3, a4, a5, some (.int x)] (.int x :: st) σ Q := ru_loc (q := (_, _)) f_M_hasJust_41 rfl rfl rfl
theorem f_M_hasJust_43 : am_cd k_M_hasJust 43 = some ((some .boolean), .iaload, (0, 0, 0, 0, 0, .null)) := rfl
theorem s_M_hasJust_43 {ls : am_L} {st : List Value} {σ : am_H} {Q : Option Value → am_H → Prop} {a : Nat} {j : Int32} : ax k_M_hasJust 43 ls (.int j :: .ref a :: st) σ Q = ax_f (am_j σ a) (fun q => q.1 = 0 ∧ am_ix j q.2.1 ∧ ax k_M_hasJust 44 ls (.int (q.2.2 j.toNatClampNeg) :: st) σ Q) := rv_iald f_M_hasJust_43 rfl
theorem f_M_hasJust_44 : am_cd k_M_hasJust 44 = some ((some .boolean), .iload_n 3, (0, 0, 0, 0, 0, .null)) := rfl
theorem s_M_hasJust_44 {a0 a1 a2 a4 a5 a6 : Option Value} {st : List Value} {σ : am_H} {Q : Option Value → am_H → Prop} {x : Int32} : ax k_M_hasJust 44 [a0, a1, a2, some (.int x), a4, a5, a6] st σ Q = ax k_M_hasJust 45 [a0, a1, a2, some (.int x), a4, a5, a6] (.int x :: st) σ Q := ru_loc (q := (_, _)) f_M_hasJust_44 rfl rfl rfl
theorem f_M_hasJust_45 : am_cd k_M_hasJust 45 = some ((some .boolean), .if_icmp .gt 30, (75, 0, 0, 0, 0, .null)) := rfl
theorem s_M_hasJust_45 {ls : am_L} {st : List Value} {σ : am_H} {Q : Option Value → am_H → Prop} {x y : Int32} : ax k_M_hasJust 45 ls (.int y :: .int x :: st) σ Q = (if y < x then ax k_M_hasJust 75 ls st σ Q else ax k_M_hasJust 48 ls st σ Q) := (ru_icmp f_M_hasJust_45 rfl).trans (ru_i_gt _ _ _ _)
theorem f_M_hasJust_48 : am_cd k_M_hasJust 48 = some ((some .boolean), .aload_n 0, (0, 0, 0, 0, 0, .null)) := rfl
theorem s_M_hasJust_48 {a1 a2 a3 a4 a5 a6 : Option Value} {st : List Value} {σ : am_H} {Q : Option Value → am_H → Prop} {x : Nat} : ax k_M_hasJust 48 [some (.ref x), a1, a2, a3, a4, a5, a6] st σ Q = ax k_M_hasJust 49 [some (.ref x), a1, a2, a3, a4, a5, a6] (.ref x :: st) σ Q := ru_loc (q := (_, _)) f_M_hasJust_48 rfl rfl rfl
theorem f_M_hasJust_49 : am_cd k_M_hasJust 49 = some ((some .boolean), .getfield 43, (11, 17, 934, 0, 3, .null)) := rfl
theorem s_M_hasJust_49 {ls : am_L} {st : List Value} {σ : am_H} {Q : Option Value → am_H → Prop} {a : Nat} : ax k_M_hasJust 49 ls (.ref a :: st) σ Q = ax_f (am_fld σ a 11 17) (fun v => ax k_M_hasJust 52 ls (v :: st) σ Q) := ru_getf f_M_hasJust_49 rfl
theorem f_M_hasJust_52 : am_cd k_M_hasJust 52 = some ((some .boolean), .iload 6, (0, 0, 0, 0, 0, .null)) := rfl
theorem s_M_hasJust_52 {a0 a1 a2 a3 a4 a5 : Option Value} {st : List Value} {σ : am_H} {Q : Option Value → am_H → Prop} {x : Int32} : ax k_M_hasJust 52 [a0, a1, a2, a3, a4, a5, some (.int x)] st σ Q = ax k_M_hasJust 54 [a0, a1, a2, a3, a4, a5, some (.int x)] (.int x :: st) σ Q := ru_loc (q := (_, _)) f_M_hasJust_52 rfl rfl rfl
theorem f_M_hasJust_54 : am_cd k_M_hasJust 54 = some ((some .boolean), .baload, (0, 0, 0, 0, 0, .null)) := rfl
theorem s_M_hasJust_54 {ls : am_L} {st : List Value} {σ : am_H} {Q : Option Value → am_H → Prop} {a : Nat} {j : Int32} : ax k_M_hasJust 54 ls (.int j :: .ref a :: st) σ Q = ax_f (am_j σ a) (fun q => (q.1 = 1 ∨ q.1 = 2) ∧ am_ix j q.2.1 ∧ ax k_M_hasJust 55 ls (.int (q.2.2 j.toNatClampNeg) :: st) σ Q) := rv_bald f_M_hasJust_54 rfl
theorem f_M_hasJust_55 : am_cd k_M_hasJust 55 = some ((some .boolean), .ifCond .ne 13, (68, 0, 0, 0, 0, .null)) := rfl
theorem s_M_hasJust_55 {ls : am_L} {st : List Value} {σ : am_H} {Q : Option Value → am_H → Prop} {x : Int32} : ax k_M_hasJust 55 ls (.int x :: st) σ Q = (if x = 0 then ax k_M_hasJust 58 ls st σ Q else ax k_M_hasJust 68 ls st σ Q) := (ru_if f_M_hasJust_55 rfl).trans (ru_i_ne _ _ _ _)
theorem f_M_hasJust_58 : am_cd k_M_hasJust 58 = some ((some .boolean), .iload 4, (0, 0, 0, 0, 0, .null)) := rfl
theorem s_M_hasJust_58 {a0 a1 a2 a3 a5 a6 : Option Value} {st : List Value} {σ : am_H} {Q : Option Value → am_H → Prop} {x : Int32} : ax k_M_hasJust 58 [a0, a1, a2, a3, some (.int x), a5, a6] st σ Q = ax k_M_hasJust 60 [a0, a1, a2, a3, some (.int x), a5, a6] (.int x :: st) σ Q := ru_loc (q := (_, _)) f_M_hasJust_58 rfl rfl rfl
theorem f_M_hasJust_60 : am_cd k_M_hasJust 60 = some ((some .boolean), .ifCond .eq 12, (72, 0, 0, 0, 0, .null)) := rfl
theorem s_M_hasJust_60 {ls : am_L} {st : List Value} {σ : am_H} {Q : Option Value → am_H → Prop} {x : Int32} : ax k_M_hasJust 60 ls (.int x :: st) σ Q = (if x = 0 then ax k_M_hasJust 72 ls st σ Q else ax k_M_hasJust 63 ls st σ Q) := (ru_if f_M_hasJust_60 rfl).trans (ru_i_eq _ _ _ _)
theorem f_M_hasJust_63 : am_cd k_M_hasJust 63 = some ((some .boolean), .iload 5, (0, 0, 0, 0, 0, .null)) := rfl
theorem s_M_hasJust_63 {a0 a1 a2 a3 a4 a6 : Option Value} {st : List Value} {σ : am_H} {Q : Option Value → am_H → Prop} {x : Int32} : ax k_M_hasJust 63 [a0, a1, a2, a3, a4, some (.int x), a6] st σ Q = ax k_M_hasJust 65 [a0, a1, a2, a3, a4, some (.int x), a6] (.int x :: st) σ Q := ru_loc (q := (_, _)) f_M_hasJust_63 rfl rfl rfl
theorem f_M_hasJust_65 : am_cd k_M_hasJust 65 = some ((some .boolean), .ifCond .eq 7, (72, 0, 0, 0, 0, .null)) := rfl
theorem s_M_hasJust_65 {ls : am_L} {st : List Value} {σ : am_H} {Q : Option Value → am_H → Prop} {x : Int32} : ax k_M_hasJust 65 ls (.int x :: st) σ Q = (if x = 0 then ax k_M_hasJust 72 ls st σ Q else ax k_M_hasJust 68 ls st σ Q) := (ru_if f_M_hasJust_65 rfl).trans (ru_i_eq _ _ _ _)
theorem f_M_hasJust_68 : am_cd k_M_hasJust 68 = some ((some .boolean), .iconst 1, (0, 0, 0, 0, 0, .null)) := rfl
theorem s_M_hasJust_68 {ls : am_L} {st : List Value} {σ : am_H} {Q : Option Value → am_H → Prop} : ax k_M_hasJust 68 ls st σ Q = ax k_M_hasJust 69 ls (.int 1 :: st) σ Q := ru_iconst f_M_hasJust_68 (by decide +kernel) rfl
theorem f_M_hasJust_69 : am_cd k_M_hasJust 69 = some ((some .boolean), .goto 4, (73, 0, 0, 0, 0, .null)) := rfl
theorem s_M_hasJust_69 {ls : am_L} {st : List Value} {σ : am_H} {Q : Option Value → am_H → Prop} : ax k_M_hasJust 69 ls st σ Q = ax k_M_hasJust 73 ls st σ Q := ru_goto f_M_hasJust_69
theorem f_M_hasJust_72 : am_cd k_M_hasJust 72 = some ((some .boolean), .iconst 0, (0, 0, 0, 0, 0, .null)) := rfl
theorem s_M_hasJust_72 {ls : am_L} {st : List Value} {σ : am_H} {Q : Option Value → am_H → Prop} : ax k_M_hasJust 72 ls st σ Q = ax k_M_hasJust 73 ls (.int 0 :: st) σ Q := ru_iconst f_M_hasJust_72 (by decide +kernel) rfl
theorem f_M_hasJust_73 : am_cd k_M_hasJust 73 = some ((some .boolean), .istore 5, (0, 0, 0, 0, 0, .null)) := rfl
theorem s_M_hasJust_73 {a0 a1 a2 a3 a4 a5 a6 : Option Value} {st : List Value} {σ : am_H} {Q : Option Value → am_H → Prop} {x : Int32} (hc : am_c2 a4 = false) : ax k_M_hasJust 73 [a0, a1, a2, a3, a4, a5, a6] (.int x :: st) σ Q = ax k_M_hasJust 75 [a0, a1, a2, a3, a4, some (.int x), a6] st σ Q := ru_istore f_M_hasJust_73 (Nat.le_of_ble_eq_true rfl) (ru_st1 (Nat.le_of_ble_eq_true rfl) (am_clr_c2 hc rfl) rfl) rfl
theorem f_M_hasJust_75 : am_cd k_M_hasJust 75 = some ((some .boolean), .iinc 6 1, (0, 0, 0, 0, 0, .null)) := rfl
theorem s_M_hasJust_75 {a0 a1 a2 a3 a4 a5 : Option Value} {st : List Value} {σ : am_H} {Q : Option Value → am_H → Prop} {x : Int32} (hc : am_c2 a5 = false) : ax k_M_hasJust 75 [a0, a1, a2, a3, a4, a5, some (.int x)] st σ Q = ax k_M_hasJust 78 [a0, a1, a2, a3, a4, a5, some (.int (x + 1))] st σ Q := ru_iinc f_M_hasJust_75 rfl (Nat.le_of_ble_eq_true rfl) (by decide +kernel) (ru_st1 (Nat.le_of_ble_eq_true rfl) (am_clr_c2 hc rfl) rfl) rfl
theorem f_M_hasJust_78 : am_cd k_M_hasJust 78 = some ((some .boolean), .goto (-72), (6, 0, 0, 0, 0, .null)) := rfl
theorem s_M_hasJust_78 {ls : am_L} {st : List Value} {σ : am_H} {Q : Option Value → am_H → Prop} : ax k_M_hasJust 78 ls st σ Q = ax k_M_hasJust 6 ls st σ Q := ru_goto f_M_hasJust_78
theorem f_M_hasJust_81 : am_cd k_M_hasJust 81 = some ((some .boolean), .iload 5, (0, 0, 0, 0, 0, .null)) := rfl
theorem s_M_hasJust_81 {a0 a1 a2 a3 a4 a6 : Option Value} {st : List Value} {σ : am_H} {Q : Option Value → am_H → Prop} {x : Int32} : ax k_M_hasJust 81 [a0, a1, a2, a3, a4, some (.int x), a6] st σ Q = ax k_M_hasJust 83 [a0, a1, a2, a3, a4, some (.int x), a6] (.int x :: st) σ Q := ru_loc (q := (_, _)) f_M_hasJust_81 rfl rfl rfl
theorem f_M_hasJust_83 : am_cd k_M_hasJust 83 = some ((some .boolean), .ireturn, (0, 0, 0, 0, 0, .null)) := rfl
theorem s_M_hasJust_83 {ls : am_L} {σ : am_H} {Q : Option Value → am_H → Prop} {v : Int32} : ax k_M_hasJust 83 ls ([.int v]) σ Q = (am_nar .boolean v = true ∧ Q (some (.int v)) σ) := ru_iret f_M_hasJust_83
theorem f_M_caption_0 : am_cd k_M_caption 0 = some ((some .boolean), .aload_n 0, (0, 0, 0, 0, 0, .null)) := rfl
theorem s_M_caption_0 {a1 a2 a3 : Option Value} {st : List Value} {σ : am_H} {Q : Option Value → am_H → Prop} {x : Nat} : ax k_M_caption 0 [some (.ref x), a1, a2, a3] st σ Q = ax k_M_caption 1 [some (.ref x), a1, a2, a3] (.ref x :: st) σ Q := ru_loc (q := (_, _)) f_M_caption_0 rfl rfl rfl
theorem f_M_caption_1 : am_cd k_M_caption 1 = some ((some .boolean), .iload_n 1, (0, 0, 0, 0, 0, .null)) := rfl
theorem s_M_caption_1 {a0 a2 a3 : Option Value} {st : List Value} {σ : am_H} {Q : Option Value → am_H → Prop} {x : Int32} : ax k_M_caption 1 [a0, some (.int x), a2, a3] st σ Q = ax k_M_caption 2 [a0, some (.int x), a2, a3] (.int x :: st) σ Q := ru_loc (q := (_, _)) f_M_caption_1 rfl rfl rfl
theorem f_M_caption_2 : am_cd k_M_caption 2 = some ((some .boolean), .invokevirtual 195, (115, 1, 1155, 0, 11, .null)) := rfl
theorem s_M_caption_2 {ls : am_L} {st : List Value} {σ : am_H} {Q : Option Value → am_H → Prop} {p0 : Int32} {b : Nat} (hi : am_is σ b 11) (h8 : am_s8 st) : ax k_M_caption 2 ls (.int p0 :: .ref b :: st) σ Q = ax k_M_isPicture 0 [some (.ref b), some (.int p0)] [] σ (ax_k k_M_caption 5 ls st Q) := ru_vir (M' := rk_M_isPicture) f_M_caption_2 rfl rfl rfl rfl hi h8 rfl rfl rfl rfl rfl
theorem f_M_caption_5 : am_cd k_M_caption 5 = some ((some .boolean), .ifCond .eq 36, (41, 0, 0, 0, 0, .null)) := rfl
theorem s_M_caption_5 {ls : am_L} {st : List Value} {σ : am_H} {Q : Option Value → am_H → Prop} {x : Int32} : ax k_M_caption 5 ls (.int x :: st) σ Q = (if x = 0 then ax k_M_caption 41 ls st σ Q else ax k_M_caption 8 ls st σ Q) := (ru_if f_M_caption_5 rfl).trans (ru_i_eq _ _ _ _)
theorem f_M_caption_8 : am_cd k_M_caption 8 = some ((some .boolean), .aload_n 0, (0, 0, 0, 0, 0, .null)) := rfl
theorem s_M_caption_8 {a1 a2 a3 : Option Value} {st : List Value} {σ : am_H} {Q : Option Value → am_H → Prop} {x : Nat} : ax k_M_caption 8 [some (.ref x), a1, a2, a3] st σ Q = ax k_M_caption 9 [some (.ref x), a1, a2, a3] (.ref x :: st) σ Q := ru_loc (q := (_, _)) f_M_caption_8 rfl rfl rfl
theorem f_M_caption_9 : am_cd k_M_caption 9 = some ((some .boolean), .iload_n 2, (0, 0, 0, 0, 0, .null)) := rfl
theorem s_M_caption_9 {a0 a1 a3 : Option Value} {st : List Value} {σ : am_H} {Q : Option Value → am_H → Prop} {x : Int32} : ax k_M_caption 9 [a0, a1, some (.int x), a3] st σ Q = ax k_M_caption 10 [a0, a1, some (.int x), a3] (.int x :: st) σ Q := ru_loc (q := (_, _)) f_M_caption_9 rfl rfl rfl
theorem f_M_caption_10 : am_cd k_M_caption 10 = some ((some .boolean), .invokevirtual 172, (114, 1, 1117, 0, 11, .null)) := rfl
theorem s_M_caption_10 {ls : am_L} {st : List Value} {σ : am_H} {Q : Option Value → am_H → Prop} {p0 : Int32} {b : Nat} (hi : am_is σ b 11) (h8 : am_s8 st) : ax k_M_caption 10 ls (.int p0 :: .ref b :: st) σ Q = ax k_M_isWord 0 [some (.ref b), some (.int p0)] [] σ (ax_k k_M_caption 13 ls st Q) := ru_vir (M' := rk_M_isWord) f_M_caption_10 rfl rfl rfl rfl hi h8 rfl rfl rfl rfl rfl
theorem f_M_caption_13 : am_cd k_M_caption 13 = some ((some .boolean), .ifCond .eq 28, (41, 0, 0, 0, 0, .null)) := rfl
theorem s_M_caption_13 {ls : am_L} {st : List Value} {σ : am_H} {Q : Option Value → am_H → Prop} {x : Int32} : ax k_M_caption 13 ls (.int x :: st) σ Q = (if x = 0 then ax k_M_caption 41 ls st σ Q else ax k_M_caption 16 ls st σ Q) := (ru_if f_M_caption_13 rfl).trans (ru_i_eq _ _ _ _)
theorem f_M_caption_16 : am_cd k_M_caption 16 = some ((some .boolean), .aload_n 0, (0, 0, 0, 0, 0, .null)) := rfl
theorem s_M_caption_16 {a1 a2 a3 : Option Value} {st : List Value} {σ : am_H} {Q : Option Value → am_H → Prop} {x : Nat} : ax k_M_caption 16 [some (.ref x), a1, a2, a3] st σ Q = ax k_M_caption 17 [some (.ref x), a1, a2, a3] (.ref x :: st) σ Q := ru_loc (q := (_, _)) f_M_caption_16 rfl rfl rfl
theorem f_M_caption_17 : am_cd k_M_caption 17 = some ((some .boolean), .getfield 192, (11, 13, 930, 0, 0, .null)) := rfl
theorem s_M_caption_17 {ls : am_L} {st : List Value} {σ : am_H} {Q : Option Value → am_H → Prop} {a : Nat} : ax k_M_caption 17 ls (.ref a :: st) σ Q = ax_f (am_fld σ a 11 13) (fun v => ax k_M_caption 20 ls (v :: st) σ Q) := ru_getf f_M_caption_17 rfl
theorem f_M_caption_20 : am_cd k_M_caption 20 = some ((some .boolean), .sipush 200, (0, 0, 0, 0, 0, .null)) := rfl
theorem s_M_caption_20 {ls : am_L} {st : List Value} {σ : am_H} {Q : Option Value → am_H → Prop} : ax k_M_caption 20 ls st σ Q = ax k_M_caption 23 ls (.int 200 :: st) σ Q := ru_sipush f_M_caption_20 (by decide +kernel) rfl
theorem f_M_caption_23 : am_cd k_M_caption 23 = some ((some .boolean), .if_icmp .eq 18, (41, 0, 0, 0, 0, .null)) := rfl
theorem s_M_caption_23 {ls : am_L} {st : List Value} {σ : am_H} {Q : Option Value → am_H → Prop} {x y : Int32} : ax k_M_caption 23 ls (.int y :: .int x :: st) σ Q = (if x = y then ax k_M_caption 41 ls st σ Q else ax k_M_caption 26 ls st σ Q) := (ru_icmp f_M_caption_23 rfl).trans (ru_i_eq _ _ _ _)
theorem f_M_caption_26 : am_cd k_M_caption 26 = some ((some .boolean), .aload_n 0, (0, 0, 0, 0, 0, .null)) := rfl
theorem s_M_caption_26 {a1 a2 a3 : Option Value} {st : List Value} {σ : am_H} {Q : Option Value → am_H → Prop} {x : Nat} : ax k_M_caption 26 [some (.ref x), a1, a2, a3] st σ Q = ax k_M_caption 27 [some (.ref x), a1, a2, a3] (.ref x :: st) σ Q := ru_loc (q := (_, _)) f_M_caption_26 rfl rfl rfl
theorem f_M_caption_27 : am_cd k_M_caption 27 = some ((some .boolean), .iload_n 1, (0, 0, 0, 0, 0, .null)) := rfl
theorem s_M_caption_27 {a0 a2 a3 : Option Value} {st : List Value} {σ : am_H} {Q : Option Value → am_H → Prop} {x : Int32} : ax k_M_caption 27 [a0, some (.int x), a2, a3] st σ Q = ax k_M_caption 28 [a0, some (.int x), a2, a3] (.int x :: st) σ Q := ru_loc (q := (_, _)) f_M_caption_27 rfl rfl rfl
theorem f_M_caption_28 : am_cd k_M_caption 28 = some ((some .boolean), .iload_n 2, (0, 0, 0, 0, 0, .null)) := rfl
theorem s_M_caption_28 {a0 a1 a3 : Option Value} {st : List Value} {σ : am_H} {Q : Option Value → am_H → Prop} {x : Int32} : ax k_M_caption 28 [a0, a1, some (.int x), a3] st σ Q = ax k_M_caption 29 [a0, a1, some (.int x), a3] (.int x :: st) σ Q := ru_loc (q := (_, _)) f_M_caption_28 rfl rfl rfl
theorem f_M_caption_29 : am_cd k_M_caption 29 = some ((some .boolean), .aload_n 0, (0, 0, 0, 0, 0, .null)) := rfl
theorem s_M_caption_29 {a1 a2 a3 : Option Value} {st : List Value} {σ : am_H} {Q : Option Value → am_H → Prop} {x : Nat} : ax k_M_caption 29 [some (.ref x), a1, a2, a3] st σ Q = ax k_M_caption 30 [some (.ref x), a1, a2, a3] (.ref x :: st) σ Q := ru_loc (q := (_, _)) f_M_caption_29 rfl rfl rfl
theorem f_M_caption_30 : am_cd k_M_caption 30 = some ((some .boolean), .getfield 161, (11, 0, 917, 0, 0, .null)) := rfl
theorem s_M_caption_30 {ls : am_L} {st : List Value} {σ : am_H} {Q : Option Value → am_H → Prop} {a : Nat} : ax k_M_caption 30 ls (.ref a :: st) σ Q = ax_f (am_fld σ a 11 0) (fun v => ax k_M_caption 33 ls (v :: st) σ Q) := ru_getf f_M_caption_30 rfl
theorem f_M_caption_33 : am_cd k_M_caption 33 = some ((some .boolean), .iconst 0, (0, 0, 0, 0, 0, .null)) := rfl
theorem s_M_caption_33 {ls : am_L} {st : List Value} {σ : am_H} {Q : Option Value → am_H → Prop} : ax k_M_caption 33 ls st σ Q = ax k_M_caption 34 ls (.int 0 :: st) σ Q := ru_iconst f_M_caption_33 (by decide +kernel) rfl
theorem f_M_caption_34 : am_cd k_M_caption 34 = some ((some .boolean), .invokevirtual 198, (125, 4, 1159, 0, 11, .null)) := rfl
theorem s_M_caption_34 {ls : am_L} {st : List Value} {σ : am_H} {Q : Option Value → am_H → Prop} {p0 : Int32} {p1 : Int32} {p2 : Int32} {p3 : Int32} {b : Nat} (hi : am_is σ b 11) (h8 : am_s8 st) : ax k_M_caption 34 ls (.int p3 :: .int p2 :: .int p1 :: .int p0 :: .ref b :: st) σ Q = ax k_M_hasJust 0 [some (.ref b), some (.int p0), some (.int p1), some (.int p2), some (.int p3), none, none] [] σ (ax_k k_M_caption 37 ls st Q) := ru_vir (M' := rk_M_hasJust) f_M_caption_34 rfl rfl rfl rfl hi h8 rfl rfl rfl rfl rfl
theorem f_M_caption_37 : am_cd k_M_caption 37 = some ((some .boolean), .iload_n 3, (0, 0, 0, 0, 0, .null)) := rfl
theorem s_M_caption_37 {a0 a1 a2 : Option Value} {st : List Value} {σ : am_H} {Q : Option Value → am_H → Prop} {x : Int32} : ax k_M_caption 37 [a0, a1, a2, some (.int x)] st σ Q = ax k_M_caption 38 [a0, a1, a2, some (.int x)] (.int x :: st) σ Q := ru_loc (q := (_, _)) f_M_caption_37 rfl rfl rfl
theorem f_M_caption_38 : am_cd k_M_caption 38 = some ((some .boolean), .if_icmp .ne 5, (43, 0, 0, 0, 0, .null)) := rfl
theorem s_M_caption_38 {ls : am_L} {st : List Value} {σ : am_H} {Q : Option Value → am_H → Prop} {x y : Int32} : ax k_M_caption 38 ls (.int y :: .int x :: st) σ Q = (if x = y then ax k_M_caption 41 ls st σ Q else ax k_M_caption 43 ls st σ Q) := (ru_icmp f_M_caption_38 rfl).trans (ru_i_ne _ _ _ _)
theorem f_M_caption_41 : am_cd k_M_caption 41 = some ((some .boolean), .iconst 0, (0, 0, 0, 0, 0, .null)) := rfl
theorem s_M_caption_41 {ls : am_L} {st : List Value} {σ : am_H} {Q : Option Value → am_H → Prop} : ax k_M_caption 41 ls st σ Q = ax k_M_caption 42 ls (.int 0 :: st) σ Q := ru_iconst f_M_caption_41 (by decide +kernel) rfl
theorem f_M_caption_42 : am_cd k_M_caption 42 = some ((some .boolean), .ireturn, (0, 0, 0, 0, 0, .null)) := rfl
theorem s_M_caption_42 {ls : am_L} {σ : am_H} {Q : Option Value → am_H → Prop} {v : Int32} : ax k_M_caption 42 ls ([.int v]) σ Q = (am_nar .boolean v = true ∧ Q (some (.int v)) σ) := ru_iret f_M_caption_42
theorem f_M_caption_43 : am_cd k_M_caption 43 = some ((some .boolean), .aload_n 0, (0, 0, 0, 0, 0, .null)) := rfl
theorem s_M_caption_43 {a1 a2 a3 : Option Value} {st : List Value} {σ : am_H} {Q : Option Value → am_H → Prop} {x : Nat} : ax k_M_caption 43 [some (.ref x), a1, a2, a3] st σ Q = ax k_M_caption 44 [some (.ref x), a1, a2, a3] (.ref x :: st) σ Q := ru_loc (q := (_, _)) f_M_caption_43 rfl rfl rfl
theorem f_M_caption_44 : am_cd k_M_caption 44 = some ((some .boolean), .getfield 34, (11, 14, 931, 0, 3, .null)) := rfl
theorem s_M_caption_44 {ls : am_L} {st : List Value} {σ : am_H} {Q : Option Value → am_H → Prop} {a : Nat} : ax k_M_caption 44 ls (.ref a :: st) σ Q = ax_f (am_fld σ a 11 14) (fun v => ax k_M_caption 47 ls (v :: st) σ Q) := ru_getf f_M_caption_44 rfl
theorem f_M_caption_47 : am_cd k_M_caption 47 = some ((some .boolean), .aload_n 0, (0, 0, 0, 0, 0, .null)) := rfl
theorem s_M_caption_47 {a1 a2 a3 : Option Value} {st : List Value} {σ : am_H} {Q : Option Value → am_H → Prop} {x : Nat} : ax k_M_caption 47 [some (.ref x), a1, a2, a3] st σ Q = ax k_M_caption 48 [some (.ref x), a1, a2, a3] (.ref x :: st) σ Q := ru_loc (q := (_, _)) f_M_caption_47 rfl rfl rfl
theorem f_M_caption_48 : am_cd k_M_caption 48 = some ((some .boolean), .getfield 192, (11, 13, 930, 0, 0, .null)) := rfl
theorem s_M_caption_48 {ls : am_L} {st : List Value} {σ : am_H} {Q : Option Value → am_H → Prop} {a : Nat} : ax k_M_caption 48 ls (.ref a :: st) σ Q = ax_f (am_fld σ a 11 13) (fun v => ax k_M_caption 51 ls (v :: st) σ Q) := ru_getf f_M_caption_48 rfl
theorem f_M_caption_51 : am_cd k_M_caption 51 = some ((some .boolean), .iload_n 1, (0, 0, 0, 0, 0, .null)) := rfl
theorem s_M_caption_51 {a0 a2 a3 : Option Value} {st : List Value} {σ : am_H} {Q : Option Value → am_H → Prop} {x : Int32} : ax k_M_caption 51 [a0, some (.int x), a2, a3] st σ Q = ax k_M_caption 52 [a0, some (.int x), a2, a3] (.int x :: st) σ Q := ru_loc (q := (_, _)) f_M_caption_51 rfl rfl rfl
theorem f_M_caption_52 : am_cd k_M_caption 52 = some ((some .boolean), .iastore, (0, 0, 0, 0, 0, .null)) := rfl
theorem s_M_caption_52 {ls : am_L} {st : List Value} {σ : am_H} {Q : Option Value → am_H → Prop} {a : Nat} {j x : Int32} : ax k_M_caption 52 ls (.int x :: .int j :: .ref a :: st) σ Q = ax_f (am_j σ a) (fun q => q.1 = 0 ∧ am_ix j q.2.1 ∧ a < am_top ∧ ax k_M_caption 53 ls st (am_set σ a (am_ia 0 q.2.1 (upd q.2.2 j.toNatClampNeg x))) Q) := rv_iast f_M_caption_52 rfl
theorem f_M_caption_53 : am_cd k_M_caption 53 = some ((some .boolean), .aload_n 0, (0, 0, 0, 0, 0, .null)) := rfl
theorem s_M_caption_53 {a1 a2 a3 : Option Value} {st : List Value} {σ : am_H} {Q : Option Value → am_H → Prop} {x : Nat} : ax k_M_caption 53 [some (.ref x), a1, a2, a3] st σ Q = ax k_M_caption 54 [some (.ref x), a1, a2, a3] (.ref x :: st) σ Q := ru_loc (q := (_, _)) f_M_caption_53 rfl rfl rfl
theorem f_M_caption_54 : am_cd k_M_caption 54 = some ((some .boolean), .getfield 37, (11, 15, 932, 0, 3, .null)) := rfl
theorem s_M_caption_54 {ls : am_L} {st : List Value} {σ : am_H} {Q : Option Value → am_H → Prop} {a : Nat} : ax k_M_caption 54 ls (.ref a :: st) σ Q = ax_f (am_fld σ a 11 15) (fun v => ax k_M_caption 57 ls (v :: st) σ Q) := ru_getf f_M_caption_54 rfl
theorem f_M_caption_57 : am_cd k_M_caption 57 = some ((some .boolean), .aload_n 0, (0, 0, 0, 0, 0, .null)) := rfl
theorem s_M_caption_57 {a1 a2 a3 : Option Value} {st : List Value} {σ : am_H} {Q : Option Value → am_H → Prop} {x : Nat} : ax k_M_caption 57 [some (.ref x), a1, a2, a3] st σ Q = ax k_M_caption 58 [some (.ref x), a1, a2, a3] (.ref x :: st) σ Q := ru_loc (q := (_, _)) f_M_caption_57 rfl rfl rfl
theorem f_M_caption_58 : am_cd k_M_caption 58 = some ((some .boolean), .getfield 192, (11, 13, 930, 0, 0, .null)) := rfl
theorem s_M_caption_58 {ls : am_L} {st : List Value} {σ : am_H} {Q : Option Value → am_H → Prop} {a : Nat} : ax k_M_caption 58 ls (.ref a :: st) σ Q = ax_f (am_fld σ a 11 13) (fun v => ax k_M_caption 61 ls (v :: st) σ Q) := ru_getf f_M_caption_58 rfl
theorem f_M_caption_61 : am_cd k_M_caption 61 = some ((some .boolean), .iload_n 2, (0, 0, 0, 0, 0, .null)) := rfl
theorem s_M_caption_61 {a0 a1 a3 : Option Value} {st : List Value} {σ : am_H} {Q : Option Value → am_H → Prop} {x : Int32} : ax k_M_caption 61 [a0, a1, some (.int x), a3] st σ Q = ax k_M_caption 62 [a0, a1, some (.int x), a3] (.int x :: st) σ Q := ru_loc (q := (_, _)) f_M_caption_61 rfl rfl rfl
theorem f_M_caption_62 : am_cd k_M_caption 62 = some ((some .boolean), .iastore, (0, 0, 0, 0, 0, .null)) := rfl
theorem s_M_caption_62 {ls : am_L} {st : List Value} {σ : am_H} {Q : Option Value → am_H → Prop} {a : Nat} {j x : Int32} : ax k_M_caption 62 ls (.int x :: .int j :: .ref a :: st) σ Q = ax_f (am_j σ a) (fun q => q.1 = 0 ∧ am_ix j q.2.1 ∧ a < am_top ∧ ax k_M_caption 63 ls st (am_set σ a (am_ia 0 q.2.1 (upd q.2.2 j.toNatClampNeg x))) Q) := rv_iast f_M_caption_62 rfl
theorem f_M_caption_63 : am_cd k_M_caption 63 = some ((some .boolean), .aload_n 0, (0, 0, 0, 0, 0, .null)) := rfl
theorem s_M_caption_63 {a1 a2 a3 : Option Value} {st : List Value} {σ : am_H} {Q : Option Value → am_H → Prop} {x : Nat} : ax k_M_caption 63 [some (.ref x), a1, a2, a3] st σ Q = ax k_M_caption 64 [some (.ref x), a1, a2, a3] (.ref x :: st) σ Q := ru_loc (q := (_, _)) f_M_caption_63 rfl rfl rfl
theorem f_M_caption_64 : am_cd k_M_caption 64 = some ((some .boolean), .getfield 40, (11, 16, 933, 0, 3, .null)) := rfl
theorem s_M_caption_64 {ls : am_L} {st : List Value} {σ : am_H} {Q : Option Value → am_H → Prop} {a : Nat} : ax k_M_caption 64 ls (.ref a :: st) σ Q = ax_f (am_fld σ a 11 16) (fun v => ax k_M_caption 67 ls (v :: st) σ Q) := ru_getf f_M_caption_64 rfl
theorem f_M_caption_67 : am_cd k_M_caption 67 = some ((some .boolean), .aload_n 0, (0, 0, 0, 0, 0, .null)) := rfl
theorem s_M_caption_67 {a1 a2 a3 : Option Value} {st : List Value} {σ : am_H} {Q : Option Value → am_H → Prop} {x : Nat} : ax k_M_caption 67 [some (.ref x), a1, a2, a3] st σ Q = ax k_M_caption 68 [some (.ref x), a1, a2, a3] (.ref x :: st) σ Q := ru_loc (q := (_, _)) f_M_caption_67 rfl rfl rfl
theorem f_M_caption_68 : am_cd k_M_caption 68 = some ((some .boolean), .getfield 192, (11, 13, 930, 0, 0, .null)) := rfl
theorem s_M_caption_68 {ls : am_L} {st : List Value} {σ : am_H} {Q : Option Value → am_H → Prop} {a : Nat} : ax k_M_caption 68 ls (.ref a :: st) σ Q = ax_f (am_fld σ a 11 13) (fun v => ax k_M_caption 71 ls (v :: st) σ Q) := ru_getf f_M_caption_68 rfl
theorem f_M_caption_71 : am_cd k_M_caption 71 = some ((some .boolean), .aload_n 0, (0, 0, 0, 0, 0, .null)) := rfl
theorem s_M_caption_71 {a1 a2 a3 : Option Value} {st : List Value} {σ : am_H} {Q : Option Value → am_H → Prop} {x : Nat} : ax k_M_caption 71 [some (.ref x), a1, a2, a3] st σ Q = ax k_M_caption 72 [some (.ref x), a1, a2, a3] (.ref x :: st) σ Q := ru_loc (q := (_, _)) f_M_caption_71 rfl rfl rfl
theorem f_M_caption_72 : am_cd k_M_caption 72 = some ((some .boolean), .getfield 161, (11, 0, 917, 0, 0, .null)) := rfl
theorem s_M_caption_72 {ls : am_L} {st : List Value} {σ : am_H} {Q : Option Value → am_H → Prop} {a : Nat} : ax k_M_caption 72 ls (.ref a :: st) σ Q = ax_f (am_fld σ a 11 0) (fun v => ax k_M_caption 75 ls (v :: st) σ Q) := ru_getf f_M_caption_72 rfl
theorem f_M_caption_75 : am_cd k_M_caption 75 = some ((some .boolean), .iastore, (0, 0, 0, 0, 0, .null)) := rfl
theorem s_M_caption_75 {ls : am_L} {st : List Value} {σ : am_H} {Q : Option Value → am_H → Prop} {a : Nat} {j x : Int32} : ax k_M_caption 75 ls (.int x :: .int j :: .ref a :: st) σ Q = ax_f (am_j σ a) (fun q => q.1 = 0 ∧ am_ix j q.2.1 ∧ a < am_top ∧ ax k_M_caption 76 ls st (am_set σ a (am_ia 0 q.2.1 (upd q.2.2 j.toNatClampNeg x))) Q) := rv_iast f_M_caption_75 rfl
theorem f_M_caption_76 : am_cd k_M_caption 76 = some ((some .boolean), .aload_n 0, (0, 0, 0, 0, 0, .null)) := rfl
theorem s_M_caption_76 {a1 a2 a3 : Option Value} {st : List Value} {σ : am_H} {Q : Option Value → am_H → Prop} {x : Nat} : ax k_M_caption 76 [some (.ref x), a1, a2, a3] st σ Q = ax k_M_caption 77 [some (.ref x), a1, a2, a3] (.ref x :: st) σ Q := ru_loc (q := (_, _)) f_M_caption_76 rfl rfl rfl
theorem f_M_caption_77 : am_cd k_M_caption 77 = some ((some .boolean), .getfield 43, (11, 17, 934, 0, 3, .null)) := rfl
theorem s_M_caption_77 {ls : am_L} {st : List Value} {σ : am_H} {Q : Option Value → am_H → Prop} {a : Nat} : ax k_M_caption 77 ls (.ref a :: st) σ Q = ax_f (am_fld σ a 11 17) (fun v => ax k_M_caption 80 ls (v :: st) σ Q) := ru_getf f_M_caption_77 rfl
theorem f_M_caption_80 : am_cd k_M_caption 80 = some ((some .boolean), .aload_n 0, (0, 0, 0, 0, 0, .null)) := rfl
theorem s_M_caption_80 {a1 a2 a3 : Option Value} {st : List Value} {σ : am_H} {Q : Option Value → am_H → Prop} {x : Nat} : ax k_M_caption 80 [some (.ref x), a1, a2, a3] st σ Q = ax k_M_caption 81 [some (.ref x), a1, a2, a3] (.ref x :: st) σ Q := ru_loc (q := (_, _)) f_M_caption_80 rfl rfl rfl
theorem f_M_caption_81 : am_cd k_M_caption 81 = some ((some .boolean), .getfield 192, (11, 13, 930, 0, 0, .null)) := rfl
theorem s_M_caption_81 {ls : am_L} {st : List Value} {σ : am_H} {Q : Option Value → am_H → Prop} {a : Nat} : ax k_M_caption 81 ls (.ref a :: st) σ Q = ax_f (am_fld σ a 11 13) (fun v => ax k_M_caption 84 ls (v :: st) σ Q) := ru_getf f_M_caption_81 rfl
theorem f_M_caption_84 : am_cd k_M_caption 84 = some ((some .boolean), .iload_n 3, (0, 0, 0, 0, 0, .null)) := rfl
theorem s_M_caption_84 {a0 a1 a2 : Option Value} {st : List Value} {σ : am_H} {Q : Option Value → am_H → Prop} {x : Int32} : ax k_M_caption 84 [a0, a1, a2, some (.int x)] st σ Q = ax k_M_caption 85 [a0, a1, a2, some (.int x)] (.int x :: st) σ Q := ru_loc (q := (_, _)) f_M_caption_84 rfl rfl rfl
theorem f_M_caption_85 : am_cd k_M_caption 85 = some ((some .boolean), .bastore, (0, 0, 0, 0, 0, .null)) := rfl
theorem s_M_caption_85 {ls : am_L} {st : List Value} {σ : am_H} {Q : Option Value → am_H → Prop} {a : Nat} {j x : Int32} : ax k_M_caption 85 ls (.int x :: .int j :: .ref a :: st) σ Q = ax_f (am_j σ a) (fun q => q.1 = 1 ∧ am_ix j q.2.1 ∧ a < am_top ∧ (x = 0 ∨ x = 1) ∧ ax k_M_caption 86 ls st (am_set σ a (am_ia 1 q.2.1 (upd q.2.2 j.toNatClampNeg x))) Q) := rv_zast f_M_caption_85 rfl
theorem f_M_caption_86 : am_cd k_M_caption 86 = some ((some .boolean), .aload_n 0, (0, 0, 0, 0, 0, .null)) := rfl
theorem s_M_caption_86 {a1 a2 a3 : Option Value} {st : List Value} {σ : am_H} {Q : Option Value → am_H → Prop} {x : Nat} : ax k_M_caption 86 [some (.ref x), a1, a2, a3] st σ Q = ax k_M_caption 87 [some (.ref x), a1, a2, a3] (.ref x :: st) σ Q := ru_loc (q := (_, _)) f_M_caption_86 rfl rfl rfl
theorem f_M_caption_87 : am_cd k_M_caption 87 = some ((some .boolean), .dup, (0, 0, 0, 0, 0, .null)) := rfl
theorem s_M_caption_87 {ls : am_L} {st : List Value} {σ : am_H} {Q : Option Value → am_H → Prop} {a : Nat} : ax k_M_caption 87 ls (.ref a :: st) σ Q = ax k_M_caption 88 ls (.ref a :: .ref a :: st) σ Q := ru_pure f_M_caption_87 rfl rfl
theorem f_M_caption_88 : am_cd k_M_caption 88 = some ((some .boolean), .getfield 192, (11, 13, 930, 0, 0, .null)) := rfl
theorem s_M_caption_88 {ls : am_L} {st : List Value} {σ : am_H} {Q : Option Value → am_H → Prop} {a : Nat} : ax k_M_caption 88 ls (.ref a :: st) σ Q = ax_f (am_fld σ a 11 13) (fun v => ax k_M_caption 91 ls (v :: st) σ Q) := ru_getf f_M_caption_88 rfl
theorem f_M_caption_91 : am_cd k_M_caption 91 = some ((some .boolean), .iconst 1, (0, 0, 0, 0, 0, .null)) := rfl
theorem s_M_caption_91 {ls : am_L} {st : List Value} {σ : am_H} {Q : Option Value → am_H → Prop} : ax k_M_caption 91 ls st σ Q = ax k_M_caption 92 ls (.int 1 :: st) σ Q := ru_iconst f_M_caption_91 (by decide +kernel) rfl
theorem f_M_caption_92 : am_cd k_M_caption 92 = some ((some .boolean), .iadd, (0, 0, 0, 0, 0, .null)) := rfl
theorem s_M_caption_92 {ls : am_L} {st : List Value} {σ : am_H} {Q : Option Value → am_H → Prop} {x y : Int32} : ax k_M_caption 92 ls (.int y :: .int x :: st) σ Q = ax k_M_caption 93 ls (.int (x + y) :: st) σ Q := ru_pure f_M_caption_92 rfl rfl
theorem f_M_caption_93 : am_cd k_M_caption 93 = some ((some .boolean), .putfield 192, (11, 13, 930, 0, 0, .null)) := rfl
theorem s_M_caption_93 {ls : am_L} {st : List Value} {σ : am_H} {Q : Option Value → am_H → Prop} {a : Nat} {v : Value} : ax k_M_caption 93 ls (v :: .ref a :: st) σ Q = ax_f (am_fld σ a 11 13) (fun _ => a < am_top ∧ am_okv 0 v = true ∧ ax k_M_caption 96 ls st (am_put σ a 13 v) Q) := ru_putf f_M_caption_93 rfl
theorem f_M_caption_96 : am_cd k_M_caption 96 = some ((some .boolean), .iconst 1, (0, 0, 0, 0, 0, .null)) := rfl
theorem s_M_caption_96 {ls : am_L} {st : List Value} {σ : am_H} {Q : Option Value → am_H → Prop} : ax k_M_caption 96 ls st σ Q = ax k_M_caption 97 ls (.int 1 :: st) σ Q := ru_iconst f_M_caption_96 (by decide +kernel) rfl
theorem f_M_caption_97 : am_cd k_M_caption 97 = some ((some .boolean), .ireturn, (0, 0, 0, 0, 0, .null)) := rfl
theorem s_M_caption_97 {ls : am_L} {σ : am_H} {Q : Option Value → am_H → Prop} {v : Int32} : ax k_M_caption 97 ls ([.int v]) σ Q = (am_nar .boolean v = true ∧ Q (some (.int v)) σ) := ru_iret f_M_caption_97
theorem f_M_hasAny_0 : am_cd k_M_hasAny 0 = some ((some .boolean), .iconst 0, (0, 0, 0, 0, 0, .null)) := rfl
theorem s_M_hasAny_0 {ls : am_L} {st : List Value} {σ : am_H} {Q : Option Value → am_H → Prop} : ax k_M_hasAny 0 ls st σ Q = ax k_M_hasAny 1 ls (.int 0 :: st) σ Q := ru_iconst f_M_hasAny_0 (by decide +kernel) rfl
theorem f_M_hasAny_1 : am_cd k_M_hasAny 1 = some ((some .boolean), .istore 5, (0, 0, 0, 0, 0, .null)) := rfl
theorem s_M_hasAny_1 {a0 a1 a2 a3 a4 a5 : Option Value} {st : List Value} {σ : am_H} {Q : Option Value → am_H → Prop} {x : Int32} (hc : am_c2 a4 = false) : ax k_M_hasAny 1 [a0, a1, a2, a3, a4, a5] (.int x :: st) σ Q = ax k_M_hasAny 3 [a0, a1, a2, a3, a4, some (.int x)] st σ Q := ru_istore f_M_hasAny_1 (Nat.le_of_ble_eq_true rfl) (ru_st1 (Nat.le_of_ble_eq_true rfl) (am_clr_c2 hc rfl) rfl) rfl
theorem f_M_hasAny_3 : am_cd k_M_hasAny 3 = some ((some .boolean), .iload 5, (0, 0, 0, 0, 0, .null)) := rfl
theorem s_M_hasAny_3 {a0 a1 a2 a3 a4 : Option Value} {st : List Value} {σ : am_H} {Q : Option Value → am_H → Prop} {x : Int32} : ax k_M_hasAny 3 [a0, a1, a2, a3, a4, some (.int x)] st σ Q = ax k_M_hasAny 5 [a0, a1, a2, a3, a4, some (.int x)] (.int x :: st) σ Q := ru_loc (q := (_, _)) f_M_hasAny_3 rfl rfl rfl
theorem f_M_hasAny_5 : am_cd k_M_hasAny 5 = some ((some .boolean), .aload_n 0, (0, 0, 0, 0, 0, .null)) := rfl
theorem s_M_hasAny_5 {a1 a2 a3 a4 a5 : Option Value} {st : List Value} {σ : am_H} {Q : Option Value → am_H → Prop} {x : Nat} : ax k_M_hasAny 5 [some (.ref x), a1, a2, a3, a4, a5] st σ Q = ax k_M_hasAny 6 [some (.ref x), a1, a2, a3, a4, a5] (.ref x :: st) σ Q := ru_loc (q := (_, _)) f_M_hasAny_5 rfl rfl rfl
theorem f_M_hasAny_6 : am_cd k_M_hasAny 6 = some ((some .boolean), .getfield 151, (11, 1, 918, 0, 0, .null)) := rfl
theorem s_M_hasAny_6 {ls : am_L} {st : List Value} {σ : am_H} {Q : Option Value → am_H → Prop} {a : Nat} : ax k_M_hasAny 6 ls (.ref a :: st) σ Q = ax_f (am_fld σ a 11 1) (fun v => ax k_M_hasAny 9 ls (v :: st) σ Q) := ru_getf f_M_hasAny_6 rfl
theorem f_M_hasAny_9 : am_cd k_M_hasAny 9 = some ((some .boolean), .if_icmp .ge 35, (44, 0, 0, 0, 0, .null)) := rfl
theorem s_M_hasAny_9 {ls : am_L} {st : List Value} {σ : am_H} {Q : Option Value → am_H → Prop} {x y : Int32} : ax k_M_hasAny 9 ls (.int y :: .int x :: st) σ Q = (if x < y then ax k_M_hasAny 12 ls st σ Q else ax k_M_hasAny 44 ls st σ Q) := (ru_icmp f_M_hasAny_9 rfl).trans (ru_i_ge _ _ _ _)
theorem f_M_hasAny_12 : am_cd k_M_hasAny 12 = some ((some .boolean), .aload_n 0, (0, 0, 0, 0, 0, .null)) := rfl
theorem s_M_hasAny_12 {a1 a2 a3 a4 a5 : Option Value} {st : List Value} {σ : am_H} {Q : Option Value → am_H → Prop} {x : Nat} : ax k_M_hasAny 12 [some (.ref x), a1, a2, a3, a4, a5] st σ Q = ax k_M_hasAny 13 [some (.ref x), a1, a2, a3, a4, a5] (.ref x :: st) σ Q := ru_loc (q := (_, _)) f_M_hasAny_12 rfl rfl rfl
theorem f_M_hasAny_13 : am_cd k_M_hasAny 13 = some ((some .boolean), .iload_n 1, (0, 0, 0, 0, 0, .null)) := rfl
theorem s_M_hasAny_13 {a0 a2 a3 a4 a5 : Option Value} {st : List Value} {σ : am_H} {Q : Option Value → am_H → Prop} {x : Int32} : ax k_M_hasAny 13 [a0, some (.int x), a2, a3, a4, a5] st σ Q = ax k_M_hasAny 14 [a0, some (.int x), a2, a3, a4, a5] (.int x :: st) σ Q := ru_loc (q := (_, _)) f_M_hasAny_13 rfl rfl rfl
theorem f_M_hasAny_14 : am_cd k_M_hasAny 14 = some ((some .boolean), .iload 5, (0, 0, 0, 0, 0, .null)) := rfl
theorem s_M_hasAny_14 {a0 a1 a2 a3 a4 : Option Value} {st : List Value} {σ : am_H} {Q : Option Value → am_H → Prop} {x : Int32} : ax k_M_hasAny 14 [a0, a1, a2, a3, a4, some (.int x)] st σ Q = ax k_M_hasAny 16 [a0, a1, a2, a3, a4, some (.int x)] (.int x :: st) σ Q := ru_loc (q := (_, _)) f_M_hasAny_14 rfl rfl rfl
theorem f_M_hasAny_16 : am_cd k_M_hasAny 16 = some ((some .boolean), .iload_n 3, (0, 0, 0, 0, 0, .null)) := rfl
theorem s_M_hasAny_16 {a0 a1 a2 a4 a5 : Option Value} {st : List Value} {σ : am_H} {Q : Option Value → am_H → Prop} {x : Int32} : ax k_M_hasAny 16 [a0, a1, a2, some (.int x), a4, a5] st σ Q = ax k_M_hasAny 17 [a0, a1, a2, some (.int x), a4, a5] (.int x :: st) σ Q := ru_loc (q := (_, _)) f_M_hasAny_16 rfl rfl rfl
theorem f_M_hasAny_17 : am_cd k_M_hasAny 17 = some ((some .boolean), .iload 4, (0, 0, 0, 0, 0, .null)) := rfl
theorem s_M_hasAny_17 {a0 a1 a2 a3 a5 : Option Value} {st : List Value} {σ : am_H} {Q : Option Value → am_H → Prop} {x : Int32} : ax k_M_hasAny 17 [a0, a1, a2, a3, some (.int x), a5] st σ Q = ax k_M_hasAny 19 [a0, a1, a2, a3, some (.int x), a5] (.int x :: st) σ Q := ru_loc (q := (_, _)) f_M_hasAny_17 rfl rfl rfl
theorem f_M_hasAny_19 : am_cd k_M_hasAny 19 = some ((some .boolean), .invokevirtual 198, (125, 4, 1159, 0, 11, .null)) := rfl
theorem s_M_hasAny_19 {ls : am_L} {st : List Value} {σ : am_H} {Q : Option Value → am_H → Prop} {p0 : Int32} {p1 : Int32} {p2 : Int32} {p3 : Int32} {b : Nat} (hi : am_is σ b 11) (h8 : am_s8 st) : ax k_M_hasAny 19 ls (.int p3 :: .int p2 :: .int p1 :: .int p0 :: .ref b :: st) σ Q = ax k_M_hasJust 0 [some (.ref b), some (.int p0), some (.int p1), some (.int p2), some (.int p3), none, none] [] σ (ax_k k_M_hasAny 22 ls st Q) := ru_vir (M' := rk_M_hasJust) f_M_hasAny_19 rfl rfl rfl rfl hi h8 rfl rfl rfl rfl rfl
theorem f_M_hasAny_22 : am_cd k_M_hasAny 22 = some ((some .boolean), .ifCond .eq 16, (38, 0, 0, 0, 0, .null)) := rfl
theorem s_M_hasAny_22 {ls : am_L} {st : List Value} {σ : am_H} {Q : Option Value → am_H → Prop} {x : Int32} : ax k_M_hasAny 22 ls (.int x :: st) σ Q = (if x = 0 then ax k_M_hasAny 38 ls st σ Q else ax k_M_hasAny 25 ls st σ Q) := (ru_if f_M_hasAny_22 rfl).trans (ru_i_eq _ _ _ _)
theorem f_M_hasAny_25 : am_cd k_M_hasAny 25 = some ((some .boolean), .aload_n 0, (0, 0, 0, 0, 0, .null)) := rfl
theorem s_M_hasAny_25 {a1 a2 a3 a4 a5 : Option Value} {st : List Value} {σ : am_H} {Q : Option Value → am_H → Prop} {x : Nat} : ax k_M_hasAny 25 [some (.ref x), a1, a2, a3, a4, a5] st σ Q = ax k_M_hasAny 26 [some (.ref x), a1, a2, a3, a4, a5] (.ref x :: st) σ Q := ru_loc (q := (_, _)) f_M_hasAny_25 rfl rfl rfl
theorem f_M_hasAny_26 : am_cd k_M_hasAny 26 = some ((some .boolean), .iload 5, (0, 0, 0, 0, 0, .null)) := rfl
theorem s_M_hasAny_26 {a0 a1 a2 a3 a4 : Option Value} {st : List Value} {σ : am_H} {Q : Option Value → am_H → Prop} {x : Int32} : ax k_M_hasAny 26 [a0, a1, a2, a3, a4, some (.int x)] st σ Q = ax k_M_hasAny 28 [a0, a1, a2, a3, a4, some (.int x)] (.int x :: st) σ Q := ru_loc (q := (_, _)) f_M_hasAny_26 rfl rfl rfl
theorem f_M_hasAny_28 : am_cd k_M_hasAny 28 = some ((some .boolean), .iload_n 2, (0, 0, 0, 0, 0, .null)) := rfl
theorem s_M_hasAny_28 {a0 a1 a3 a4 a5 : Option Value} {st : List Value} {σ : am_H} {Q : Option Value → am_H → Prop} {x : Int32} : ax k_M_hasAny 28 [a0, a1, some (.int x), a3, a4, a5] st σ Q = ax k_M_hasAny 29 [a0, a1, some (.int x), a3, a4, a5] (.int x :: st) σ Q := ru_loc (q := (_, _)) f_M_hasAny_28 rfl rfl rfl
theorem f_M_hasAny_29 : am_cd k_M_hasAny 29 = some ((some .boolean), .iload_n 3, (0, 0, 0, 0, 0, .null)) := rfl
theorem s_M_hasAny_29 {a0 a1 a2 a4 a5 : Option Value} {st : List Value} {σ : am_H} {Q : Option Value → am_H → Prop} {x : Int32} : ax k_M_hasAny 29 [a0, a1, a2, some (.int x), a4, a5] st σ Q = ax k_M_hasAny 30 [a0, a1, a2, some (.int x), a4, a5] (.int x :: st) σ Q := ru_loc (q := (_, _)) f_M_hasAny_29 rfl rfl rfl
theorem f_M_hasAny_30 : am_cd k_M_hasAny 30 = some ((some .boolean), .invokevirtual 180, (120, 3, 1129, 0, 11, .null)) := rfl
theorem s_M_hasAny_30 {ls : am_L} {st : List Value} {σ : am_H} {Q : Option Value → am_H → Prop} {p0 : Int32} {p1 : Int32} {p2 : Int32} {b : Nat} (hi : am_is σ b 11) (h8 : am_s8 st) : ax k_M_hasAny 30 ls (.int p2 :: .int p1 :: .int p0 :: .ref b :: st) σ Q = ax k_M_isOf 0 [some (.ref b), some (.int p0), some (.int p1), some (.int p2), none] [] σ (ax_k k_M_hasAny 33 ls st Q) := ru_vir (M' := rk_M_isOf) f_M_hasAny_30 rfl rfl rfl rfl hi h8 rfl rfl rfl rfl rfl
theorem f_M_hasAny_33 : am_cd k_M_hasAny 33 = some ((some .boolean), .ifCond .eq 5, (38, 0, 0, 0, 0, .null)) := rfl
theorem s_M_hasAny_33 {ls : am_L} {st : List Value} {σ : am_H} {Q : Option Value → am_H → Prop} {x : Int32} : ax k_M_hasAny 33 ls (.int x :: st) σ Q = (if x = 0 then ax k_M_hasAny 38 ls st σ Q else ax k_M_hasAny 36 ls st σ Q) := (ru_if f_M_hasAny_33 rfl).trans (ru_i_eq _ _ _ _)
theorem f_M_hasAny_36 : am_cd k_M_hasAny 36 = some ((some .boolean), .iconst 1, (0, 0, 0, 0, 0, .null)) := rfl
theorem s_M_hasAny_36 {ls : am_L} {st : List Value} {σ : am_H} {Q : Option Value → am_H → Prop} : ax k_M_hasAny 36 ls st σ Q = ax k_M_hasAny 37 ls (.int 1 :: st) σ Q := ru_iconst f_M_hasAny_36 (by decide +kernel) rfl
theorem f_M_hasAny_37 : am_cd k_M_hasAny 37 = some ((some .boolean), .ireturn, (0, 0, 0, 0, 0, .null)) := rfl
theorem s_M_hasAny_37 {ls : am_L} {σ : am_H} {Q : Option Value → am_H → Prop} {v : Int32} : ax k_M_hasAny 37 ls ([.int v]) σ Q = (am_nar .boolean v = true ∧ Q (some (.int v)) σ) := ru_iret f_M_hasAny_37
theorem f_M_hasAny_38 : am_cd k_M_hasAny 38 = some ((some .boolean), .iinc 5 1, (0, 0, 0, 0, 0, .null)) := rfl
theorem s_M_hasAny_38 {a0 a1 a2 a3 a4 : Option Value} {st : List Value} {σ : am_H} {Q : Option Value → am_H → Prop} {x : Int32} (hc : am_c2 a4 = false) : ax k_M_hasAny 38 [a0, a1, a2, a3, a4, some (.int x)] st σ Q = ax k_M_hasAny 41 [a0, a1, a2, a3, a4, some (.int (x + 1))] st σ Q := ru_iinc f_M_hasAny_38 rfl (Nat.le_of_ble_eq_true rfl) (by decide +kernel) (ru_st1 (Nat.le_of_ble_eq_true rfl) (am_clr_c2 hc rfl) rfl) rfl
theorem f_M_hasAny_41 : am_cd k_M_hasAny 41 = some ((some .boolean), .goto (-38), (3, 0, 0, 0, 0, .null)) := rfl
theorem s_M_hasAny_41 {ls : am_L} {st : List Value} {σ : am_H} {Q : Option Value → am_H → Prop} : ax k_M_hasAny 41 ls st σ Q = ax k_M_hasAny 3 ls st σ Q := ru_goto f_M_hasAny_41
theorem f_M_hasAny_44 : am_cd k_M_hasAny 44 = some ((some .boolean), .iconst 0, (0, 0, 0, 0, 0, .null)) := rfl
theorem s_M_hasAny_44 {ls : am_L} {st : List Value} {σ : am_H} {Q : Option Value → am_H → Prop} : ax k_M_hasAny 44 ls st σ Q = ax k_M_hasAny 45 ls (.int 0 :: st) σ Q := ru_iconst f_M_hasAny_44 (by decide +kernel) rfl
theorem f_M_hasAny_45 : am_cd k_M_hasAny 45 = some ((some .boolean), .ireturn, (0, 0, 0, 0, 0, .null)) := rfl
theorem s_M_hasAny_45 {ls : am_L} {σ : am_H} {Q : Option Value → am_H → Prop} {v : Int32} : ax k_M_hasAny 45 ls ([.int v]) σ Q = (am_nar .boolean v = true ∧ Q (some (.int v)) σ) := ru_iret f_M_hasAny_45
theorem f_M_has_0 : am_cd k_M_has 0 = some ((some .int), .aload_n 0, (0, 0, 0, 0, 0, .null)) := rfl
theorem s_M_has_0 {a1 a2 a3 a4 : Option Value} {st : List Value} {σ : am_H} {Q : Option Value → am_H → Prop} {x : Nat} : ax k_M_has 0 [some (.ref x), a1, a2, a3, a4] st σ Q = ax k_M_has 1 [some (.ref x), a1, a2, a3, a4] (.ref x :: st) σ Q := ru_loc (q := (_, _)) f_M_has_0 rfl rfl rfl
theorem f_M_has_1 : am_cd k_M_has 1 = some ((some .int), .iload_n 1, (0, 0, 0, 0, 0, .null)) := rfl
theorem s_M_has_1 {a0 a2 a3 a4 : Option Value} {st : List Value} {σ : am_H} {Q : Option Value → am_H → Prop} {x : Int32} : ax k_M_has 1 [a0, some (.int x), a2, a3, a4] st σ Q = ax k_M_has 2 [a0, some (.int x), a2, a3, a4] (.int x :: st) σ Q := ru_loc (q := (_, _)) f_M_has_1 rfl rfl rfl
theorem f_M_has_2 : am_cd k_M_has 2 = some ((some .int), .invokevirtual 195, (115, 1, 1155, 0, 11, .null)) := rfl
theorem s_M_has_2 {ls : am_L} {st : List Value} {σ : am_H} {Q : Option Value → am_H → Prop} {p0 : Int32} {b : Nat} (hi : am_is σ b 11) (h8 : am_s8 st) : ax k_M_has 2 ls (.int p0 :: .ref b :: st) σ Q = ax k_M_isPicture 0 [some (.ref b), some (.int p0)] [] σ (ax_k k_M_has 5 ls st Q) := ru_vir (M' := rk_M_isPicture) f_M_has_2 rfl rfl rfl rfl hi h8 rfl rfl rfl rfl rfl
theorem f_M_has_5 : am_cd k_M_has 5 = some ((some .int), .ifCond .eq 39, (44, 0, 0, 0, 0, .null)) := rfl
theorem s_M_has_5 {ls : am_L} {st : List Value} {σ : am_H} {Q : Option Value → am_H → Prop} {x : Int32} : ax k_M_has 5 ls (.int x :: st) σ Q = (if x = 0 then ax k_M_has 44 ls st σ Q else ax k_M_has 8 ls st σ Q) := (ru_if f_M_has_5 rfl).trans (ru_i_eq _ _ _ _)
theorem f_M_has_8 : am_cd k_M_has 8 = some ((some .int), .aload_n 0, (0, 0, 0, 0, 0, .null)) := rfl
theorem s_M_has_8 {a1 a2 a3 a4 : Option Value} {st : List Value} {σ : am_H} {Q : Option Value → am_H → Prop} {x : Nat} : ax k_M_has 8 [some (.ref x), a1, a2, a3, a4] st σ Q = ax k_M_has 9 [some (.ref x), a1, a2, a3, a4] (.ref x :: st) σ Q := ru_loc (q := (_, _)) f_M_has_8 rfl rfl rfl
theorem f_M_has_9 : am_cd k_M_has 9 = some ((some .int), .iload_n 2, (0, 0, 0, 0, 0, .null)) := rfl
theorem s_M_has_9 {a0 a1 a3 a4 : Option Value} {st : List Value} {σ : am_H} {Q : Option Value → am_H → Prop} {x : Int32} : ax k_M_has 9 [a0, a1, some (.int x), a3, a4] st σ Q = ax k_M_has 10 [a0, a1, some (.int x), a3, a4] (.int x :: st) σ Q := ru_loc (q := (_, _)) f_M_has_9 rfl rfl rfl
theorem f_M_has_10 : am_cd k_M_has 10 = some ((some .int), .invokevirtual 172, (114, 1, 1117, 0, 11, .null)) := rfl
theorem s_M_has_10 {ls : am_L} {st : List Value} {σ : am_H} {Q : Option Value → am_H → Prop} {p0 : Int32} {b : Nat} (hi : am_is σ b 11) (h8 : am_s8 st) : ax k_M_has 10 ls (.int p0 :: .ref b :: st) σ Q = ax k_M_isWord 0 [some (.ref b), some (.int p0)] [] σ (ax_k k_M_has 13 ls st Q) := ru_vir (M' := rk_M_isWord) f_M_has_10 rfl rfl rfl rfl hi h8 rfl rfl rfl rfl rfl
theorem f_M_has_13 : am_cd k_M_has 13 = some ((some .int), .ifCond .eq 31, (44, 0, 0, 0, 0, .null)) := rfl
theorem s_M_has_13 {ls : am_L} {st : List Value} {σ : am_H} {Q : Option Value → am_H → Prop} {x : Int32} : ax k_M_has 13 ls (.int x :: st) σ Q = (if x = 0 then ax k_M_has 44 ls st σ Q else ax k_M_has 16 ls st σ Q) := (ru_if f_M_has_13 rfl).trans (ru_i_eq _ _ _ _)
theorem f_M_has_16 : am_cd k_M_has 16 = some ((some .int), .aload_n 0, (0, 0, 0, 0, 0, .null)) := rfl
theorem s_M_has_16 {a1 a2 a3 a4 : Option Value} {st : List Value} {σ : am_H} {Q : Option Value → am_H → Prop} {x : Nat} : ax k_M_has 16 [some (.ref x), a1, a2, a3, a4] st σ Q = ax k_M_has 17 [some (.ref x), a1, a2, a3, a4] (.ref x :: st) σ Q := ru_loc (q := (_, _)) f_M_has_16 rfl rfl rfl
theorem f_M_has_17 : am_cd k_M_has 17 = some ((some .int), .iload_n 3, (0, 0, 0, 0, 0, .null)) := rfl
theorem s_M_has_17 {a0 a1 a2 a4 : Option Value} {st : List Value} {σ : am_H} {Q : Option Value → am_H → Prop} {x : Int32} : ax k_M_has 17 [a0, a1, a2, some (.int x), a4] st σ Q = ax k_M_has 18 [a0, a1, a2, some (.int x), a4] (.int x :: st) σ Q := ru_loc (q := (_, _)) f_M_has_17 rfl rfl rfl
theorem f_M_has_18 : am_cd k_M_has 18 = some ((some .int), .invokevirtual 186, (116, 1, 1141, 0, 11, .null)) := rfl
theorem s_M_has_18 {ls : am_L} {st : List Value} {σ : am_H} {Q : Option Value → am_H → Prop} {p0 : Int32} {b : Nat} (hi : am_is σ b 11) (h8 : am_s8 st) : ax k_M_has 18 ls (.int p0 :: .ref b :: st) σ Q = ax k_M_isPast 0 [some (.ref b), some (.int p0)] [] σ (ax_k k_M_has 21 ls st Q) := ru_vir (M' := rk_M_isPast) f_M_has_18 rfl rfl rfl rfl hi h8 rfl rfl rfl rfl rfl
theorem f_M_has_21 : am_cd k_M_has 21 = some ((some .int), .ifCond .eq 23, (44, 0, 0, 0, 0, .null)) := rfl
theorem s_M_has_21 {ls : am_L} {st : List Value} {σ : am_H} {Q : Option Value → am_H → Prop} {x : Int32} : ax k_M_has 21 ls (.int x :: st) σ Q = (if x = 0 then ax k_M_has 44 ls st σ Q else ax k_M_has 24 ls st σ Q) := (ru_if f_M_has_21 rfl).trans (ru_i_eq _ _ _ _)
theorem f_M_has_24 : am_cd k_M_has 24 = some ((some .int), .aload_n 0, (0, 0, 0, 0, 0, .null)) := rfl
theorem s_M_has_24 {a1 a2 a3 a4 : Option Value} {st : List Value} {σ : am_H} {Q : Option Value → am_H → Prop} {x : Nat} : ax k_M_has 24 [some (.ref x), a1, a2, a3, a4] st σ Q = ax k_M_has 25 [some (.ref x), a1, a2, a3, a4] (.ref x :: st) σ Q := ru_loc (q := (_, _)) f_M_has_24 rfl rfl rfl
theorem f_M_has_25 : am_cd k_M_has 25 = some ((some .int), .iload_n 1, (0, 0, 0, 0, 0, .null)) := rfl
theorem s_M_has_25 {a0 a2 a3 a4 : Option Value} {st : List Value} {σ : am_H} {Q : Option Value → am_H → Prop} {x : Int32} : ax k_M_has 25 [a0, some (.int x), a2, a3, a4] st σ Q = ax k_M_has 26 [a0, some (.int x), a2, a3, a4] (.int x :: st) σ Q := ru_loc (q := (_, _)) f_M_has_25 rfl rfl rfl
theorem f_M_has_26 : am_cd k_M_has 26 = some ((some .int), .iload_n 2, (0, 0, 0, 0, 0, .null)) := rfl
theorem s_M_has_26 {a0 a1 a3 a4 : Option Value} {st : List Value} {σ : am_H} {Q : Option Value → am_H → Prop} {x : Int32} : ax k_M_has 26 [a0, a1, some (.int x), a3, a4] st σ Q = ax k_M_has 27 [a0, a1, some (.int x), a3, a4] (.int x :: st) σ Q := ru_loc (q := (_, _)) f_M_has_26 rfl rfl rfl
theorem f_M_has_27 : am_cd k_M_has 27 = some ((some .int), .iload_n 3, (0, 0, 0, 0, 0, .null)) := rfl
theorem s_M_has_27 {a0 a1 a2 a4 : Option Value} {st : List Value} {σ : am_H} {Q : Option Value → am_H → Prop} {x : Int32} : ax k_M_has 27 [a0, a1, a2, some (.int x), a4] st σ Q = ax k_M_has 28 [a0, a1, a2, some (.int x), a4] (.int x :: st) σ Q := ru_loc (q := (_, _)) f_M_has_27 rfl rfl rfl
theorem f_M_has_28 : am_cd k_M_has 28 = some ((some .int), .iload 4, (0, 0, 0, 0, 0, .null)) := rfl
theorem s_M_has_28 {a0 a1 a2 a3 : Option Value} {st : List Value} {σ : am_H} {Q : Option Value → am_H → Prop} {x : Int32} : ax k_M_has 28 [a0, a1, a2, a3, some (.int x)] st σ Q = ax k_M_has 30 [a0, a1, a2, a3, some (.int x)] (.int x :: st) σ Q := ru_loc (q := (_, _)) f_M_has_28 rfl rfl rfl
theorem f_M_has_30 : am_cd k_M_has 30 = some ((some .int), .invokevirtual 202, (127, 4, 1167, 0, 11, .null)) := rfl
theorem s_M_has_30 {ls : am_L} {st : List Value} {σ : am_H} {Q : Option Value → am_H → Prop} {p0 : Int32} {p1 : Int32} {p2 : Int32} {p3 : Int32} {b : Nat} (hi : am_is σ b 11) (h8 : am_s8 st) : ax k_M_has 30 ls (.int p3 :: .int p2 :: .int p1 :: .int p0 :: .ref b :: st) σ Q = ax k_M_hasAny 0 [some (.ref b), some (.int p0), some (.int p1), some (.int p2), some (.int p3), none] [] σ (ax_k k_M_has 33 ls st Q) := ru_vir (M' := rk_M_hasAny) f_M_has_30 rfl rfl rfl rfl hi h8 rfl rfl rfl rfl rfl
theorem f_M_has_33 : am_cd k_M_has 33 = some ((some .int), .ifCond .eq 7, (40, 0, 0, 0, 0, .null)) := rfl
theorem s_M_has_33 {ls : am_L} {st : List Value} {σ : am_H} {Q : Option Value → am_H → Prop} {x : Int32} : ax k_M_has 33 ls (.int x :: st) σ Q = (if x = 0 then ax k_M_has 40 ls st σ Q else ax k_M_has 36 ls st σ Q) := (ru_if f_M_has_33 rfl).trans (ru_i_eq _ _ _ _)
theorem f_M_has_36 : am_cd k_M_has 36 = some ((some .int), .iconst 1, (0, 0, 0, 0, 0, .null)) := rfl
theorem s_M_has_36 {ls : am_L} {st : List Value} {σ : am_H} {Q : Option Value → am_H → Prop} : ax k_M_has 36 ls st σ Q = ax k_M_has 37 ls (.int 1 :: st) σ Q := ru_iconst f_M_has_36 (by decide +kernel) rfl
theorem f_M_has_37 : am_cd k_M_has 37 = some ((some .int), .goto 8, (45, 0, 0, 0, 0, .null)) := rfl
theorem s_M_has_37 {ls : am_L} {st : List Value} {σ : am_H} {Q : Option Value → am_H → Prop} : ax k_M_has 37 ls st σ Q = ax k_M_has 45 ls st σ Q := ru_goto f_M_has_37
theorem f_M_has_40 : am_cd k_M_has 40 = some ((some .int), .iconst 0, (0, 0, 0, 0, 0, .null)) := rfl
theorem s_M_has_40 {ls : am_L} {st : List Value} {σ : am_H} {Q : Option Value → am_H → Prop} : ax k_M_has 40 ls st σ Q = ax k_M_has 41 ls (.int 0 :: st) σ Q := ru_iconst f_M_has_40 (by decide +kernel) rfl
theorem f_M_has_41 : am_cd k_M_has 41 = some ((some .int), .goto 4, (45, 0, 0, 0, 0, .null)) := rfl
theorem s_M_has_41 {ls : am_L} {st : List Value} {σ : am_H} {Q : Option Value → am_H → Prop} : ax k_M_has 41 ls st σ Q = ax k_M_has 45 ls st σ Q := ru_goto f_M_has_41
theorem f_M_has_44 : am_cd k_M_has 44 = some ((some .int), .iconst (-1), (0, 0, 0, 0, 0, .null)) := rfl
theorem s_M_has_44 {ls : am_L} {st : List Value} {σ : am_H} {Q : Option Value → am_H → Prop} : ax k_M_has 44 ls st σ Q = ax k_M_has 45 ls (.int (-1) :: st) σ Q := ru_iconst f_M_has_44 (by decide +kernel) rfl
theorem f_M_has_45 : am_cd k_M_has 45 = some ((some .int), .ireturn, (0, 0, 0, 0, 0, .null)) := rfl
theorem s_M_has_45 {ls : am_L} {σ : am_H} {Q : Option Value → am_H → Prop} {v : Int32} : ax k_M_has 45 ls [.int v] σ Q = Q (some (.int v)) σ := ru_iretI f_M_has_45
theorem f_M_isFound_0 : am_cd k_M_isFound 0 = some ((some .boolean), .aload_n 0, (0, 0, 0, 0, 0, .null)) := rfl
theorem s_M_isFound_0 {a1 a2 a3 a4 : Option Value} {st : List Value} {σ : am_H} {Q : Option Value → am_H → Prop} {x : Nat} : ax k_M_isFound 0 [some (.ref x), a1, a2, a3, a4] st σ Q = ax k_M_isFound 1 [some (.ref x), a1, a2, a3, a4] (.ref x :: st) σ Q := ru_loc (q := (_, _)) f_M_isFound_0 rfl rfl rfl
theorem f_M_isFound_1 : am_cd k_M_isFound 1 = some ((some .boolean), .getfield 25, (11, 10, 927, 0, 3, .null)) := rfl
theorem s_M_isFound_1 {ls : am_L} {st : List Value} {σ : am_H} {Q : Option Value → am_H → Prop} {a : Nat} : ax k_M_isFound 1 ls (.ref a :: st) σ Q = ax_f (am_fld σ a 11 10) (fun v => ax k_M_isFound 4 ls (v :: st) σ Q) := ru_getf f_M_isFound_1 rfl
theorem f_M_isFound_4 : am_cd k_M_isFound 4 = some ((some .boolean), .iload_n 1, (0, 0, 0, 0, 0, .null)) := rfl
theorem s_M_isFound_4 {a0 a2 a3 a4 : Option Value} {st : List Value} {σ : am_H} {Q : Option Value → am_H → Prop} {x : Int32} : ax k_M_isFound 4 [a0, some (.int x), a2, a3, a4] st σ Q = ax k_M_isFound 5 [a0, some (.int x), a2, a3, a4] (.int x :: st) σ Q := ru_loc (q := (_, _)) f_M_isFound_4 rfl rfl rfl
theorem f_M_isFound_5 : am_cd k_M_isFound 5 = some ((some .boolean), .iaload, (0, 0, 0, 0, 0, .null)) := rfl
theorem s_M_isFound_5 {ls : am_L} {st : List Value} {σ : am_H} {Q : Option Value → am_H → Prop} {a : Nat} {j : Int32} : ax k_M_isFound 5 ls (.int j :: .ref a :: st) σ Q = ax_f (am_j σ a) (fun q => q.1 = 0 ∧ am_ix j q.2.1 ∧ ax k_M_isFound 6 ls (.int (q.2.2 j.toNatClampNeg) :: st) σ Q) := rv_iald f_M_isFound_5 rfl
theorem f_M_isFound_6 : am_cd k_M_isFound 6 = some ((some .boolean), .iload_n 3, (0, 0, 0, 0, 0, .null)) := rfl
theorem s_M_isFound_6 {a0 a1 a2 a4 : Option Value} {st : List Value} {σ : am_H} {Q : Option Value → am_H → Prop} {x : Int32} : ax k_M_isFound 6 [a0, a1, a2, some (.int x), a4] st σ Q = ax k_M_isFound 7 [a0, a1, a2, some (.int x), a4] (.int x :: st) σ Q := ru_loc (q := (_, _)) f_M_isFound_6 rfl rfl rfl
theorem f_M_isFound_7 : am_cd k_M_isFound 7 = some ((some .boolean), .if_icmp .gt 19, (26, 0, 0, 0, 0, .null)) := rfl
theorem s_M_isFound_7 {ls : am_L} {st : List Value} {σ : am_H} {Q : Option Value → am_H → Prop} {x y : Int32} : ax k_M_isFound 7 ls (.int y :: .int x :: st) σ Q = (if y < x then ax k_M_isFound 26 ls st σ Q else ax k_M_isFound 10 ls st σ Q) := (ru_icmp f_M_isFound_7 rfl).trans (ru_i_gt _ _ _ _)
theorem f_M_isFound_10 : am_cd k_M_isFound 10 = some ((some .boolean), .aload_n 0, (0, 0, 0, 0, 0, .null)) := rfl
theorem s_M_isFound_10 {a1 a2 a3 a4 : Option Value} {st : List Value} {σ : am_H} {Q : Option Value → am_H → Prop} {x : Nat} : ax k_M_isFound 10 [some (.ref x), a1, a2, a3, a4] st σ Q = ax k_M_isFound 11 [some (.ref x), a1, a2, a3, a4] (.ref x :: st) σ Q := ru_loc (q := (_, _)) f_M_isFound_10 rfl rfl rfl
theorem f_M_isFound_11 : am_cd k_M_isFound 11 = some ((some .boolean), .iload_n 1, (0, 0, 0, 0, 0, .null)) := rfl
theorem s_M_isFound_11 {a0 a2 a3 a4 : Option Value} {st : List Value} {σ : am_H} {Q : Option Value → am_H → Prop} {x : Int32} : ax k_M_isFound 11 [a0, some (.int x), a2, a3, a4] st σ Q = ax k_M_isFound 12 [a0, some (.int x), a2, a3, a4] (.int x :: st) σ Q := ru_loc (q := (_, _)) f_M_isFound_11 rfl rfl rfl
theorem f_M_isFound_12 : am_cd k_M_isFound 12 = some ((some .boolean), .iload_n 2, (0, 0, 0, 0, 0, .null)) := rfl
theorem s_M_isFound_12 {a0 a1 a3 a4 : Option Value} {st : List Value} {σ : am_H} {Q : Option Value → am_H → Prop} {x : Int32} : ax k_M_isFound 12 [a0, a1, some (.int x), a3, a4] st σ Q = ax k_M_isFound 13 [a0, a1, some (.int x), a3, a4] (.int x :: st) σ Q := ru_loc (q := (_, _)) f_M_isFound_12 rfl rfl rfl
theorem f_M_isFound_13 : am_cd k_M_isFound 13 = some ((some .boolean), .iload_n 3, (0, 0, 0, 0, 0, .null)) := rfl
theorem s_M_isFound_13 {a0 a1 a2 a4 : Option Value} {st : List Value} {σ : am_H} {Q : Option Value → am_H → Prop} {x : Int32} : ax k_M_isFound 13 [a0, a1, a2, some (.int x), a4] st σ Q = ax k_M_isFound 14 [a0, a1, a2, some (.int x), a4] (.int x :: st) σ Q := ru_loc (q := (_, _)) f_M_isFound_13 rfl rfl rfl
theorem f_M_isFound_14 : am_cd k_M_isFound 14 = some ((some .boolean), .iload 4, (0, 0, 0, 0, 0, .null)) := rfl
theorem s_M_isFound_14 {a0 a1 a2 a3 : Option Value} {st : List Value} {σ : am_H} {Q : Option Value → am_H → Prop} {x : Int32} : ax k_M_isFound 14 [a0, a1, a2, a3, some (.int x)] st σ Q = ax k_M_isFound 16 [a0, a1, a2, a3, some (.int x)] (.int x :: st) σ Q := ru_loc (q := (_, _)) f_M_isFound_14 rfl rfl rfl
theorem f_M_isFound_16 : am_cd k_M_isFound 16 = some ((some .boolean), .invokevirtual 202, (127, 4, 1167, 0, 11, .null)) := rfl
theorem s_M_isFound_16 {ls : am_L} {st : List Value} {σ : am_H} {Q : Option Value → am_H → Prop} {p0 : Int32} {p1 : Int32} {p2 : Int32} {p3 : Int32} {b : Nat} (hi : am_is σ b 11) (h8 : am_s8 st) : ax k_M_isFound 16 ls (.int p3 :: .int p2 :: .int p1 :: .int p0 :: .ref b :: st) σ Q = ax k_M_hasAny 0 [some (.ref b), some (.int p0), some (.int p1), some (.int p2), some (.int p3), none] [] σ (ax_k k_M_isFound 19 ls st Q) := ru_vir (M' := rk_M_hasAny) f_M_isFound_16 rfl rfl rfl rfl hi h8 rfl rfl rfl rfl rfl
theorem f_M_isFound_19 : am_cd k_M_isFound 19 = some ((some .boolean), .ifCond .eq 7, (26, 0, 0, 0, 0, .null)) := rfl
theorem s_M_isFound_19 {ls : am_L} {st : List Value} {σ : am_H} {Q : Option Value → am_H → Prop} {x : Int32} : ax k_M_isFound 19 ls (.int x :: st) σ Q = (if x = 0 then ax k_M_isFound 26 ls st σ Q else ax k_M_isFound 22 ls st σ Q) := (ru_if f_M_isFound_19 rfl).trans (ru_i_eq _ _ _ _)
theorem f_M_isFound_22 : am_cd k_M_isFound 22 = some ((some .boolean), .iconst 1, (0, 0, 0, 0, 0, .null)) := rfl
theorem s_M_isFound_22 {ls : am_L} {st : List Value} {σ : am_H} {Q : Option Value → am_H → Prop} : ax k_M_isFound 22 ls st σ Q = ax k_M_isFound 23 ls (.int 1 :: st) σ Q := ru_iconst f_M_isFound_22 (by decide +kernel) rfl
theorem f_M_isFound_23 : am_cd k_M_isFound 23 = some ((some .boolean), .goto 4, (27, 0, 0, 0, 0, .null)) := rfl
theorem s_M_isFound_23 {ls : am_L} {st : List Value} {σ : am_H} {Q : Option Value → am_H → Prop} : ax k_M_isFound 23 ls st σ Q = ax k_M_isFound 27 ls st σ Q := ru_goto f_M_isFound_23
theorem f_M_isFound_26 : am_cd k_M_isFound 26 = some ((some .boolean), .iconst 0, (0, 0, 0, 0, 0, .null)) := rfl
theorem s_M_isFound_26 {ls : am_L} {st : List Value} {σ : am_H} {Q : Option Value → am_H → Prop} : ax k_M_isFound 26 ls st σ Q = ax k_M_isFound 27 ls (.int 0 :: st) σ Q := ru_iconst f_M_isFound_26 (by decide +kernel) rfl
theorem f_M_isFound_27 : am_cd k_M_isFound 27 = some ((some .boolean), .ireturn, (0, 0, 0, 0, 0, .null)) := rfl
theorem s_M_isFound_27 {ls : am_L} {σ : am_H} {Q : Option Value → am_H → Prop} {v : Int32} : ax k_M_isFound 27 ls ([.int v]) σ Q = (am_nar .boolean v = true ∧ Q (some (.int v)) σ) := ru_iret f_M_isFound_27
theorem f_M_search_0 : am_cd k_M_search 0 = some ((some .int), .aload_n 0, (0, 0, 0, 0, 0, .null)) := rfl
theorem s_M_search_0 {a1 a2 a3 a4 a5 : Option Value} {st : List Value} {σ : am_H} {Q : Option Value → am_H → Prop} {x : Nat} : ax k_M_search 0 [some (.ref x), a1, a2, a3, a4, a5] st σ Q = ax k_M_search 1 [some (.ref x), a1, a2, a3, a4, a5] (.ref x :: st) σ Q := ru_loc (q := (_, _)) f_M_search_0 rfl rfl rfl
theorem f_M_search_1 : am_cd k_M_search 1 = some ((some .int), .iload_n 1, (0, 0, 0, 0, 0, .null)) := rfl
theorem s_M_search_1 {a0 a2 a3 a4 a5 : Option Value} {st : List Value} {σ : am_H} {Q : Option Value → am_H → Prop} {x : Int32} : ax k_M_search 1 [a0, some (.int x), a2, a3, a4, a5] st σ Q = ax k_M_search 2 [a0, some (.int x), a2, a3, a4, a5] (.int x :: st) σ Q := ru_loc (q := (_, _)) f_M_search_1 rfl rfl rfl
theorem f_M_search_2 : am_cd k_M_search 2 = some ((some .int), .invokevirtual 172, (114, 1, 1117, 0, 11, .null)) := rfl
theorem s_M_search_2 {ls : am_L} {st : List Value} {σ : am_H} {Q : Option Value → am_H → Prop} {p0 : Int32} {b : Nat} (hi : am_is σ b 11) (h8 : am_s8 st) : ax k_M_search 2 ls (.int p0 :: .ref b :: st) σ Q = ax k_M_isWord 0 [some (.ref b), some (.int p0)] [] σ (ax_k k_M_search 5 ls st Q) := ru_vir (M' := rk_M_isWord) f_M_search_2 rfl rfl rfl rfl hi h8 rfl rfl rfl rfl rfl
theorem f_M_search_5 : am_cd k_M_search 5 = some ((some .int), .ifCond .eq 11, (16, 0, 0, 0, 0, .null)) := rfl
theorem s_M_search_5 {ls : am_L} {st : List Value} {σ : am_H} {Q : Option Value → am_H → Prop} {x : Int32} : ax k_M_search 5 ls (.int x :: st) σ Q = (if x = 0 then ax k_M_search 16 ls st σ Q else ax k_M_search 8 ls st σ Q) := (ru_if f_M_search_5 rfl).trans (ru_i_eq _ _ _ _)
theorem f_M_search_8 : am_cd k_M_search 8 = some ((some .int), .aload_n 0, (0, 0, 0, 0, 0, .null)) := rfl
theorem s_M_search_8 {a1 a2 a3 a4 a5 : Option Value} {st : List Value} {σ : am_H} {Q : Option Value → am_H → Prop} {x : Nat} : ax k_M_search 8 [some (.ref x), a1, a2, a3, a4, a5] st σ Q = ax k_M_search 9 [some (.ref x), a1, a2, a3, a4, a5] (.ref x :: st) σ Q := ru_loc (q := (_, _)) f_M_search_8 rfl rfl rfl
theorem f_M_search_9 : am_cd k_M_search 9 = some ((some .int), .iload_n 2, (0, 0, 0, 0, 0, .null)) := rfl
theorem s_M_search_9 {a0 a1 a3 a4 a5 : Option Value} {st : List Value} {σ : am_H} {Q : Option Value → am_H → Prop} {x : Int32} : ax k_M_search 9 [a0, a1, some (.int x), a3, a4, a5] st σ Q = ax k_M_search 10 [a0, a1, some (.int x), a3, a4, a5] (.int x :: st) σ Q := ru_loc (q := (_, _)) f_M_search_9 rfl rfl rfl
theorem f_M_search_10 : am_cd k_M_search 10 = some ((some .int), .invokevirtual 186, (116, 1, 1141, 0, 11, .null)) := rfl
theorem s_M_search_10 {ls : am_L} {st : List Value} {σ : am_H} {Q : Option Value → am_H → Prop} {p0 : Int32} {b : Nat} (hi : am_is σ b 11) (h8 : am_s8 st) : ax k_M_search 10 ls (.int p0 :: .ref b :: st) σ Q = ax k_M_isPast 0 [some (.ref b), some (.int p0)] [] σ (ax_k k_M_search 13 ls st Q) := ru_vir (M' := rk_M_isPast) f_M_search_10 rfl rfl rfl rfl hi h8 rfl rfl rfl rfl rfl
theorem f_M_search_13 : am_cd k_M_search 13 = some ((some .int), .ifCond .ne 5, (18, 0, 0, 0, 0, .null)) := rfl
theorem s_M_search_13 {ls : am_L} {st : List Value} {σ : am_H} {Q : Option Value → am_H → Prop} {x : Int32} : ax k_M_search 13 ls (.int x :: st) σ Q = (if x = 0 then ax k_M_search 16 ls st σ Q else ax k_M_search 18 ls st σ Q) := (ru_if f_M_search_13 rfl).trans (ru_i_ne _ _ _ _)
theorem f_M_search_16 : am_cd k_M_search 16 = some ((some .int), .iconst (-1), (0, 0, 0, 0, 0, .null)) := rfl
theorem s_M_search_16 {ls : am_L} {st : List Value} {σ : am_H} {Q : Option Value → am_H → Prop} : ax k_M_search 16 ls st σ Q = ax k_M_search 17 ls (.int (-1) :: st) σ Q := ru_iconst f_M_search_16 (by decide +kernel) rfl
theorem f_M_search_17 : am_cd k_M_search 17 = some ((some .int), .ireturn, (0, 0, 0, 0, 0, .null)) := rfl
theorem s_M_search_17 {ls : am_L} {σ : am_H} {Q : Option Value → am_H → Prop} {v : Int32} : ax k_M_search 17 ls [.int v] σ Q = Q (some (.int v)) σ := ru_iretI f_M_search_17
theorem f_M_search_18 : am_cd k_M_search 18 = some ((some .int), .iconst 0, (0, 0, 0, 0, 0, .null)) := rfl
theorem s_M_search_18 {ls : am_L} {st : List Value} {σ : am_H} {Q : Option Value → am_H → Prop} : ax k_M_search 18 ls st σ Q = ax k_M_search 19 ls (.int 0 :: st) σ Q := ru_iconst f_M_search_18 (by decide +kernel) rfl
theorem f_M_search_19 : am_cd k_M_search 19 = some ((some .int), .istore 4, (0, 0, 0, 0, 0, .null)) := rfl
theorem s_M_search_19 {a0 a1 a2 a3 a4 a5 : Option Value} {st : List Value} {σ : am_H} {Q : Option Value → am_H → Prop} {x : Int32} (hc : am_c2 a3 = false) : ax k_M_search 19 [a0, a1, a2, a3, a4, a5] (.int x :: st) σ Q = ax k_M_search 21 [a0, a1, a2, a3, some (.int x), a5] st σ Q := ru_istore f_M_search_19 (Nat.le_of_ble_eq_true rfl) (ru_st1 (Nat.le_of_ble_eq_true rfl) (am_clr_c2 hc rfl) rfl) rfl
theorem f_M_search_21 : am_cd k_M_search 21 = some ((some .int), .iconst 0, (0, 0, 0, 0, 0, .null)) := rfl
theorem s_M_search_21 {ls : am_L} {st : List Value} {σ : am_H} {Q : Option Value → am_H → Prop} : ax k_M_search 21 ls st σ Q = ax k_M_search 22 ls (.int 0 :: st) σ Q := ru_iconst f_M_search_21 (by decide +kernel) rfl
theorem f_M_search_22 : am_cd k_M_search 22 = some ((some .int), .istore 5, (0, 0, 0, 0, 0, .null)) := rfl
theorem s_M_search_22 {a0 a1 a2 a3 a4 a5 : Option Value} {st : List Value} {σ : am_H} {Q : Option Value → am_H → Prop} {x : Int32} (hc : am_c2 a4 = false) : ax k_M_search 22 [a0, a1, a2, a3, a4, a5] (.int x :: st) σ Q = ax k_M_search 24 [a0, a1, a2, a3, a4, some (.int x)] st σ Q := ru_istore f_M_search_22 (Nat.le_of_ble_eq_true rfl) (ru_st1 (Nat.le_of_ble_eq_true rfl) (am_clr_c2 hc rfl) rfl) rfl
theorem f_M_search_24 : am_cd k_M_search 24 = some ((some .int), .iload 5, (0, 0, 0, 0, 0, .null)) := rfl
theorem s_M_search_24 {a0 a1 a2 a3 a4 : Option Value} {st : List Value} {σ : am_H} {Q : Option Value → am_H → Prop} {x : Int32} : ax k_M_search 24 [a0, a1, a2, a3, a4, some (.int x)] st σ Q = ax k_M_search 26 [a0, a1, a2, a3, a4, some (.int x)] (.int x :: st) σ Q := ru_loc (q := (_, _)) f_M_search_24 rfl rfl rfl
theorem f_M_search_26 : am_cd k_M_search 26 = some ((some .int), .aload_n 0, (0, 0, 0, 0, 0, .null)) := rfl
theorem s_M_search_26 {a1 a2 a3 a4 a5 : Option Value} {st : List Value} {σ : am_H} {Q : Option Value → am_H → Prop} {x : Nat} : ax k_M_search 26 [some (.ref x), a1, a2, a3, a4, a5] st σ Q = ax k_M_search 27 [some (.ref x), a1, a2, a3, a4, a5] (.ref x :: st) σ Q := ru_loc (q := (_, _)) f_M_search_26 rfl rfl rfl
theorem f_M_search_27 : am_cd k_M_search 27 = some ((some .int), .getfield 158, (11, 7, 924, 0, 0, .null)) := rfl
theorem s_M_search_27 {ls : am_L} {st : List Value} {σ : am_H} {Q : Option Value → am_H → Prop} {a : Nat} : ax k_M_search 27 ls (.ref a :: st) σ Q = ax_f (am_fld σ a 11 7) (fun v => ax k_M_search 30 ls (v :: st) σ Q) := ru_getf f_M_search_27 rfl
theorem f_M_search_30 : am_cd k_M_search 30 = some ((some .int), .if_icmp .ge 31, (61, 0, 0, 0, 0, .null)) := rfl
theorem s_M_search_30 {ls : am_L} {st : List Value} {σ : am_H} {Q : Option Value → am_H → Prop} {x y : Int32} : ax k_M_search 30 ls (.int y :: .int x :: st) σ Q = (if x < y then ax k_M_search 33 ls st σ Q else ax k_M_search 61 ls st σ Q) := (ru_icmp f_M_search_30 rfl).trans (ru_i_ge _ _ _ _)
theorem f_M_search_33 : am_cd k_M_search 33 = some ((some .int), .iload 4, (0, 0, 0, 0, 0, .null)) := rfl
theorem s_M_search_33 {a0 a1 a2 a3 a5 : Option Value} {st : List Value} {σ : am_H} {Q : Option Value → am_H → Prop} {x : Int32} : ax k_M_search 33 [a0, a1, a2, a3, some (.int x), a5] st σ Q = ax k_M_search 35 [a0, a1, a2, a3, some (.int x), a5] (.int x :: st) σ Q := ru_loc (q := (_, _)) f_M_search_33 rfl rfl rfl
theorem f_M_search_35 : am_cd k_M_search 35 = some ((some .int), .aload_n 0, (0, 0, 0, 0, 0, .null)) := rfl
theorem s_M_search_35 {a1 a2 a3 a4 a5 : Option Value} {st : List Value} {σ : am_H} {Q : Option Value → am_H → Prop} {x : Nat} : ax k_M_search 35 [some (.ref x), a1, a2, a3, a4, a5] st σ Q = ax k_M_search 36 [some (.ref x), a1, a2, a3, a4, a5] (.ref x :: st) σ Q := ru_loc (q := (_, _)) f_M_search_35 rfl rfl rfl
theorem f_M_search_36 : am_cd k_M_search 36 = some ((some .int), .iload 5, (0, 0, 0, 0, 0, .null)) := rfl
theorem s_M_search_36 {a0 a1 a2 a3 a4 : Option Value} {st : List Value} {σ : am_H} {Q : Option Value → am_H → Prop} {x : Int32} : ax k_M_search 36 [a0, a1, a2, a3, a4, some (.int x)] st σ Q = ax k_M_search 38 [a0, a1, a2, a3, a4, some (.int x)] (.int x :: st) σ Q := ru_loc (q := (_, _)) f_M_search_36 rfl rfl rfl
theorem f_M_search_38 : am_cd k_M_search 38 = some ((some .int), .iload_n 1, (0, 0, 0, 0, 0, .null)) := rfl
theorem s_M_search_38 {a0 a2 a3 a4 a5 : Option Value} {st : List Value} {σ : am_H} {Q : Option Value → am_H → Prop} {x : Int32} : ax k_M_search 38 [a0, some (.int x), a2, a3, a4, a5] st σ Q = ax k_M_search 39 [a0, some (.int x), a2, a3, a4, a5] (.int x :: st) σ Q := ru_loc (q := (_, _)) f_M_search_38 rfl rfl rfl
theorem f_M_search_39 : am_cd k_M_search 39 = some ((some .int), .iload_n 2, (0, 0, 0, 0, 0, .null)) := rfl
theorem s_M_search_39 {a0 a1 a3 a4 a5 : Option Value} {st : List Value} {σ : am_H} {Q : Option Value → am_H → Prop} {x : Int32} : ax k_M_search 39 [a0, a1, some (.int x), a3, a4, a5] st σ Q = ax k_M_search 40 [a0, a1, some (.int x), a3, a4, a5] (.int x :: st) σ Q := ru_loc (q := (_, _)) f_M_search_39 rfl rfl rfl
theorem f_M_search_40 : am_cd k_M_search 40 = some ((some .int), .iload_n 3, (0, 0, 0, 0, 0, .null)) := rfl
theorem s_M_search_40 {a0 a1 a2 a4 a5 : Option Value} {st : List Value} {σ : am_H} {Q : Option Value → am_H → Prop} {x : Int32} : ax k_M_search 40 [a0, a1, a2, some (.int x), a4, a5] st σ Q = ax k_M_search 41 [a0, a1, a2, some (.int x), a4, a5] (.int x :: st) σ Q := ru_loc (q := (_, _)) f_M_search_40 rfl rfl rfl
theorem f_M_search_41 : am_cd k_M_search 41 = some ((some .int), .invokevirtual 205, (129, 4, 1175, 0, 11, .null)) := rfl
theorem s_M_search_41 {ls : am_L} {st : List Value} {σ : am_H} {Q : Option Value → am_H → Prop} {p0 : Int32} {p1 : Int32} {p2 : Int32} {p3 : Int32} {b : Nat} (hi : am_is σ b 11) (h8 : am_s8 st) : ax k_M_search 41 ls (.int p3 :: .int p2 :: .int p1 :: .int p0 :: .ref b :: st) σ Q = ax k_M_isFound 0 [some (.ref b), some (.int p0), some (.int p1), some (.int p2), some (.int p3)] [] σ (ax_k k_M_search 44 ls st Q) := ru_vir (M' := rk_M_isFound) f_M_search_41 rfl rfl rfl rfl hi h8 rfl rfl rfl rfl rfl
theorem f_M_search_44 : am_cd k_M_search 44 = some ((some .int), .ifCond .eq 7, (51, 0, 0, 0, 0, .null)) := rfl
theorem s_M_search_44 {ls : am_L} {st : List Value} {σ : am_H} {Q : Option Value → am_H → Prop} {x : Int32} : ax k_M_search 44 ls (.int x :: st) σ Q = (if x = 0 then ax k_M_search 51 ls st σ Q else ax k_M_search 47 ls st σ Q) := (ru_if f_M_search_44 rfl).trans (ru_i_eq _ _ _ _)
theorem f_M_search_47 : am_cd k_M_search 47 = some ((some .int), .iconst 1, (0, 0, 0, 0, 0, .null)) := rfl
theorem s_M_search_47 {ls : am_L} {st : List Value} {σ : am_H} {Q : Option Value → am_H → Prop} : ax k_M_search 47 ls st σ Q = ax k_M_search 48 ls (.int 1 :: st) σ Q := ru_iconst f_M_search_47 (by decide +kernel) rfl
theorem f_M_search_48 : am_cd k_M_search 48 = some ((some .int), .goto 4, (52, 0, 0, 0, 0, .null)) := rfl
theorem s_M_search_48 {ls : am_L} {st : List Value} {σ : am_H} {Q : Option Value → am_H → Prop} : ax k_M_search 48 ls st σ Q = ax k_M_search 52 ls st σ Q := ru_goto f_M_search_48
theorem f_M_search_51 : am_cd k_M_search 51 = some ((some .int), .iconst 0, (0, 0, 0, 0, 0, .null)) := rfl
theorem s_M_search_51 {ls : am_L} {st : List Value} {σ : am_H} {Q : Option Value → am_H → Prop} : ax k_M_search 51 ls st σ Q = ax k_M_search 52 ls (.int 0 :: st) σ Q := ru_iconst f_M_search_51 (by decide +kernel) rfl
theorem f_M_search_52 : am_cd k_M_search 52 = some ((some .int), .iadd, (0, 0, 0, 0, 0, .null)) := rfl
theorem s_M_search_52 {ls : am_L} {st : List Value} {σ : am_H} {Q : Option Value → am_H → Prop} {x y : Int32} : ax k_M_search 52 ls (.int y :: .int x :: st) σ Q = ax k_M_search 53 ls (.int (x + y) :: st) σ Q := ru_pure f_M_search_52 rfl rfl
theorem f_M_search_53 : am_cd k_M_search 53 = some ((some .int), .istore 4, (0, 0, 0, 0, 0, .null)) := rfl
theorem s_M_search_53 {a0 a1 a2 a3 a4 a5 : Option Value} {st : List Value} {σ : am_H} {Q : Option Value → am_H → Prop} {x : Int32} (hc : am_c2 a3 = false) : ax k_M_search 53 [a0, a1, a2, a3, a4, a5] (.int x :: st) σ Q = ax k_M_search 55 [a0, a1, a2, a3, some (.int x), a5] st σ Q := ru_istore f_M_search_53 (Nat.le_of_ble_eq_true rfl) (ru_st1 (Nat.le_of_ble_eq_true rfl) (am_clr_c2 hc rfl) rfl) rfl
theorem f_M_search_55 : am_cd k_M_search 55 = some ((some .int), .iinc 5 1, (0, 0, 0, 0, 0, .null)) := rfl
theorem s_M_search_55 {a0 a1 a2 a3 a4 : Option Value} {st : List Value} {σ : am_H} {Q : Option Value → am_H → Prop} {x : Int32} (hc : am_c2 a4 = false) : ax k_M_search 55 [a0, a1, a2, a3, a4, some (.int x)] st σ Q = ax k_M_search 58 [a0, a1, a2, a3, a4, some (.int (x + 1))] st σ Q := ru_iinc f_M_search_55 rfl (Nat.le_of_ble_eq_true rfl) (by decide +kernel) (ru_st1 (Nat.le_of_ble_eq_true rfl) (am_clr_c2 hc rfl) rfl) rfl
theorem f_M_search_58 : am_cd k_M_search 58 = some ((some .int), .goto (-34), (24, 0, 0, 0, 0, .null)) := rfl
theorem s_M_search_58 {ls : am_L} {st : List Value} {σ : am_H} {Q : Option Value → am_H → Prop} : ax k_M_search 58 ls st σ Q = ax k_M_search 24 ls st σ Q := ru_goto f_M_search_58
theorem f_M_search_61 : am_cd k_M_search 61 = some ((some .int), .iload 4, (0, 0, 0, 0, 0, .null)) := rfl
theorem s_M_search_61 {a0 a1 a2 a3 a5 : Option Value} {st : List Value} {σ : am_H} {Q : Option Value → am_H → Prop} {x : Int32} : ax k_M_search 61 [a0, a1, a2, a3, some (.int x), a5] st σ Q = ax k_M_search 63 [a0, a1, a2, a3, some (.int x), a5] (.int x :: st) σ Q := ru_loc (q := (_, _)) f_M_search_61 rfl rfl rfl
theorem f_M_search_63 : am_cd k_M_search 63 = some ((some .int), .ireturn, (0, 0, 0, 0, 0, .null)) := rfl
theorem s_M_search_63 {ls : am_L} {σ : am_H} {Q : Option Value → am_H → Prop} {v : Int32} : ax k_M_search 63 ls [.int v] σ Q = Q (some (.int v)) σ := ru_iretI f_M_search_63
theorem f_M_found_0 : am_cd k_M_found 0 = some ((some .int), .aload_n 0, (0, 0, 0, 0, 0, .null)) := rfl
theorem s_M_found_0 {a1 a2 a3 a4 a5 a6 : Option Value} {st : List Value} {σ : am_H} {Q : Option Value → am_H → Prop} {x : Nat} : ax k_M_found 0 [some (.ref x), a1, a2, a3, a4, a5, a6] st σ Q = ax k_M_found 1 [some (.ref x), a1, a2, a3, a4, a5, a6] (.ref x :: st) σ Q := ru_loc (q := (_, _)) f_M_found_0 rfl rfl rfl
theorem f_M_found_1 : am_cd k_M_found 1 = some ((some .int), .iload_n 1, (0, 0, 0, 0, 0, .null)) := rfl
theorem s_M_found_1 {a0 a2 a3 a4 a5 a6 : Option Value} {st : List Value} {σ : am_H} {Q : Option Value → am_H → Prop} {x : Int32} : ax k_M_found 1 [a0, some (.int x), a2, a3, a4, a5, a6] st σ Q = ax k_M_found 2 [a0, some (.int x), a2, a3, a4, a5, a6] (.int x :: st) σ Q := ru_loc (q := (_, _)) f_M_found_1 rfl rfl rfl
theorem f_M_found_2 : am_cd k_M_found 2 = some ((some .int), .invokevirtual 172, (114, 1, 1117, 0, 11, .null)) := rfl
theorem s_M_found_2 {ls : am_L} {st : List Value} {σ : am_H} {Q : Option Value → am_H → Prop} {p0 : Int32} {b : Nat} (hi : am_is σ b 11) (h8 : am_s8 st) : ax k_M_found 2 ls (.int p0 :: .ref b :: st) σ Q = ax k_M_isWord 0 [some (.ref b), some (.int p0)] [] σ (ax_k k_M_found 5 ls st Q) := ru_vir (M' := rk_M_isWord) f_M_found_2 rfl rfl rfl rfl hi h8 rfl rfl rfl rfl rfl
theorem f_M_found_5 : am_cd k_M_found 5 = some ((some .int), .ifCond .eq 11, (16, 0, 0, 0, 0, .null)) := rfl
theorem s_M_found_5 {ls : am_L} {st : List Value} {σ : am_H} {Q : Option Value → am_H → Prop} {x : Int32} : ax k_M_found 5 ls (.int x :: st) σ Q = (if x = 0 then ax k_M_found 16 ls st σ Q else ax k_M_found 8 ls st σ Q) := (ru_if f_M_found_5 rfl).trans (ru_i_eq _ _ _ _)
theorem f_M_found_8 : am_cd k_M_found 8 = some ((some .int), .aload_n 0, (0, 0, 0, 0, 0, .null)) := rfl
theorem s_M_found_8 {a1 a2 a3 a4 a5 a6 : Option Value} {st : List Value} {σ : am_H} {Q : Option Value → am_H → Prop} {x : Nat} : ax k_M_found 8 [some (.ref x), a1, a2, a3, a4, a5, a6] st σ Q = ax k_M_found 9 [some (.ref x), a1, a2, a3, a4, a5, a6] (.ref x :: st) σ Q := ru_loc (q := (_, _)) f_M_found_8 rfl rfl rfl
theorem f_M_found_9 : am_cd k_M_found 9 = some ((some .int), .iload_n 2, (0, 0, 0, 0, 0, .null)) := rfl
theorem s_M_found_9 {a0 a1 a3 a4 a5 a6 : Option Value} {st : List Value} {σ : am_H} {Q : Option Value → am_H → Prop} {x : Int32} : ax k_M_found 9 [a0, a1, some (.int x), a3, a4, a5, a6] st σ Q = ax k_M_found 10 [a0, a1, some (.int x), a3, a4, a5, a6] (.int x :: st) σ Q := ru_loc (q := (_, _)) f_M_found_9 rfl rfl rfl
theorem f_M_found_10 : am_cd k_M_found 10 = some ((some .int), .invokevirtual 186, (116, 1, 1141, 0, 11, .null)) := rfl
theorem s_M_found_10 {ls : am_L} {st : List Value} {σ : am_H} {Q : Option Value → am_H → Prop} {p0 : Int32} {b : Nat} (hi : am_is σ b 11) (h8 : am_s8 st) : ax k_M_found 10 ls (.int p0 :: .ref b :: st) σ Q = ax k_M_isPast 0 [some (.ref b), some (.int p0)] [] σ (ax_k k_M_found 13 ls st Q) := ru_vir (M' := rk_M_isPast) f_M_found_10 rfl rfl rfl rfl hi h8 rfl rfl rfl rfl rfl
theorem f_M_found_13 : am_cd k_M_found 13 = some ((some .int), .ifCond .ne 5, (18, 0, 0, 0, 0, .null)) := rfl
theorem s_M_found_13 {ls : am_L} {st : List Value} {σ : am_H} {Q : Option Value → am_H → Prop} {x : Int32} : ax k_M_found 13 ls (.int x :: st) σ Q = (if x = 0 then ax k_M_found 16 ls st σ Q else ax k_M_found 18 ls st σ Q) := (ru_if f_M_found_13 rfl).trans (ru_i_ne _ _ _ _)
theorem f_M_found_16 : am_cd k_M_found 16 = some ((some .int), .iconst (-1), (0, 0, 0, 0, 0, .null)) := rfl
theorem s_M_found_16 {ls : am_L} {st : List Value} {σ : am_H} {Q : Option Value → am_H → Prop} : ax k_M_found 16 ls st σ Q = ax k_M_found 17 ls (.int (-1) :: st) σ Q := ru_iconst f_M_found_16 (by decide +kernel) rfl
theorem f_M_found_17 : am_cd k_M_found 17 = some ((some .int), .ireturn, (0, 0, 0, 0, 0, .null)) := rfl
theorem s_M_found_17 {ls : am_L} {σ : am_H} {Q : Option Value → am_H → Prop} {v : Int32} : ax k_M_found 17 ls [.int v] σ Q = Q (some (.int v)) σ := ru_iretI f_M_found_17
theorem f_M_found_18 : am_cd k_M_found 18 = some ((some .int), .iconst 0, (0, 0, 0, 0, 0, .null)) := rfl
theorem s_M_found_18 {ls : am_L} {st : List Value} {σ : am_H} {Q : Option Value → am_H → Prop} : ax k_M_found 18 ls st σ Q = ax k_M_found 19 ls (.int 0 :: st) σ Q := ru_iconst f_M_found_18 (by decide +kernel) rfl
theorem f_M_found_19 : am_cd k_M_found 19 = some ((some .int), .istore 5, (0, 0, 0, 0, 0, .null)) := rfl
theorem s_M_found_19 {a0 a1 a2 a3 a4 a5 a6 : Option Value} {st : List Value} {σ : am_H} {Q : Option Value → am_H → Prop} {x : Int32} (hc : am_c2 a4 = false) : ax k_M_found 19 [a0, a1, a2, a3, a4, a5, a6] (.int x :: st) σ Q = ax k_M_found 21 [a0, a1, a2, a3, a4, some (.int x), a6] st σ Q := ru_istore f_M_found_19 (Nat.le_of_ble_eq_true rfl) (ru_st1 (Nat.le_of_ble_eq_true rfl) (am_clr_c2 hc rfl) rfl) rfl
theorem f_M_found_21 : am_cd k_M_found 21 = some ((some .int), .iconst 0, (0, 0, 0, 0, 0, .null)) := rfl
theorem s_M_found_21 {ls : am_L} {st : List Value} {σ : am_H} {Q : Option Value → am_H → Prop} : ax k_M_found 21 ls st σ Q = ax k_M_found 22 ls (.int 0 :: st) σ Q := ru_iconst f_M_found_21 (by decide +kernel) rfl
theorem f_M_found_22 : am_cd k_M_found 22 = some ((some .int), .istore 6, (0, 0, 0, 0, 0, .null)) := rfl
theorem s_M_found_22 {a0 a1 a2 a3 a4 a5 a6 : Option Value} {st : List Value} {σ : am_H} {Q : Option Value → am_H → Prop} {x : Int32} (hc : am_c2 a5 = false) : ax k_M_found 22 [a0, a1, a2, a3, a4, a5, a6] (.int x :: st) σ Q = ax k_M_found 24 [a0, a1, a2, a3, a4, a5, some (.int x)] st σ Q := ru_istore f_M_found_22 (Nat.le_of_ble_eq_true rfl) (ru_st1 (Nat.le_of_ble_eq_true rfl) (am_clr_c2 hc rfl) rfl) rfl
theorem f_M_found_24 : am_cd k_M_found 24 = some ((some .int), .iload 6, (0, 0, 0, 0, 0, .null)) := rfl
theorem s_M_found_24 {a0 a1 a2 a3 a4 a5 : Option Value} {st : List Value} {σ : am_H} {Q : Option Value → am_H → Prop} {x : Int32} : ax k_M_found 24 [a0, a1, a2, a3, a4, a5, some (.int x)] st σ Q = ax k_M_found 26 [a0, a1, a2, a3, a4, a5, some (.int x)] (.int x :: st) σ Q := ru_loc (q := (_, _)) f_M_found_24 rfl rfl rfl
theorem f_M_found_26 : am_cd k_M_found 26 = some ((some .int), .aload_n 0, (0, 0, 0, 0, 0, .null)) := rfl
theorem s_M_found_26 {a1 a2 a3 a4 a5 a6 : Option Value} {st : List Value} {σ : am_H} {Q : Option Value → am_H → Prop} {x : Nat} : ax k_M_found 26 [some (.ref x), a1, a2, a3, a4, a5, a6] st σ Q = ax k_M_found 27 [some (.ref x), a1, a2, a3, a4, a5, a6] (.ref x :: st) σ Q := ru_loc (q := (_, _)) f_M_found_26 rfl rfl rfl
theorem f_M_found_27 : am_cd k_M_found 27 = some ((some .int), .getfield 158, (11, 7, 924, 0, 0, .null)) := rfl
theorem s_M_found_27 {ls : am_L} {st : List Value} {σ : am_H} {Q : Option Value → am_H → Prop} {a : Nat} : ax k_M_found 27 ls (.ref a :: st) σ Q = ax_f (am_fld σ a 11 7) (fun v => ax k_M_found 30 ls (v :: st) σ Q) := ru_getf f_M_found_27 rfl
theorem f_M_found_30 : am_cd k_M_found 30 = some ((some .int), .if_icmp .ge 37, (67, 0, 0, 0, 0, .null)) := rfl
theorem s_M_found_30 {ls : am_L} {st : List Value} {σ : am_H} {Q : Option Value → am_H → Prop} {x y : Int32} : ax k_M_found 30 ls (.int y :: .int x :: st) σ Q = (if x < y then ax k_M_found 33 ls st σ Q else ax k_M_found 67 ls st σ Q) := (ru_icmp f_M_found_30 rfl).trans (ru_i_ge _ _ _ _)
theorem f_M_found_33 : am_cd k_M_found 33 = some ((some .int), .aload_n 0, (0, 0, 0, 0, 0, .null)) := rfl
theorem s_M_found_33 {a1 a2 a3 a4 a5 a6 : Option Value} {st : List Value} {σ : am_H} {Q : Option Value → am_H → Prop} {x : Nat} : ax k_M_found 33 [some (.ref x), a1, a2, a3, a4, a5, a6] st σ Q = ax k_M_found 34 [some (.ref x), a1, a2, a3, a4, a5, a6] (.ref x :: st) σ Q := ru_loc (q := (_, _)) f_M_found_33 rfl rfl rfl
theorem f_M_found_34 : am_cd k_M_found 34 = some ((some .int), .iload 6, (0, 0, 0, 0, 0, .null)) := rfl
theorem s_M_found_34 {a0 a1 a2 a3 a4 a5 : Option Value} {st : List Value} {σ : am_H} {Q : Option Value → am_H → Prop} {x : Int32} : ax k_M_found 34 [a0, a1, a2, a3, a4, a5, some (.int x)] st σ Q = ax k_M_found 36 [a0, a1, a2, a3, a4, a5, some (.int x)] (.int x :: st) σ Q := ru_loc (q := (_, _)) f_M_found_34 rfl rfl rfl
theorem f_M_found_36 : am_cd k_M_found 36 = some ((some .int), .iload_n 1, (0, 0, 0, 0, 0, .null)) := rfl
theorem s_M_found_36 {a0 a2 a3 a4 a5 a6 : Option Value} {st : List Value} {σ : am_H} {Q : Option Value → am_H → Prop} {x : Int32} : ax k_M_found 36 [a0, some (.int x), a2, a3, a4, a5, a6] st σ Q = ax k_M_found 37 [a0, some (.int x), a2, a3, a4, a5, a6] (.int x :: st) σ Q := ru_loc (q := (_, _)) f_M_found_36 rfl rfl rfl
theorem f_M_found_37 : am_cd k_M_found 37 = some ((some .int), .iload_n 2, (0, 0, 0, 0, 0, .null)) := rfl
theorem s_M_found_37 {a0 a1 a3 a4 a5 a6 : Option Value} {st : List Value} {σ : am_H} {Q : Option Value → am_H → Prop} {x : Int32} : ax k_M_found 37 [a0, a1, some (.int x), a3, a4, a5, a6] st σ Q = ax k_M_found 38 [a0, a1, some (.int x), a3, a4, a5, a6] (.int x :: st) σ Q := ru_loc (q := (_, _)) f_M_found_37 rfl rfl rfl
theorem f_M_found_38 : am_cd k_M_found 38 = some ((some .int), .iload_n 3, (0, 0, 0, 0, 0, .null)) := rfl
theorem s_M_found_38 {a0 a1 a2 a4 a5 a6 : Option Value} {st : List Value} {σ : am_H} {Q : Option Value → am_H → Prop} {x : Int32} : ax k_M_found 38 [a0, a1, a2, some (.int x), a4, a5, a6] st σ Q = ax k_M_found 39 [a0, a1, a2, some (.int x), a4, a5, a6] (.int x :: st) σ Q := ru_loc (q := (_, _)) f_M_found_38 rfl rfl rfl
theorem f_M_found_39 : am_cd k_M_found 39 = some ((some .int), .invokevirtual 205, (129, 4, 1175, 0, 11, .null)) := rfl
theorem s_M_found_39 {ls : am_L} {st : List Value} {σ : am_H} {Q : Option Value → am_H → Prop} {p0 : Int32} {p1 : Int32} {p2 : Int32} {p3 : Int32} {b : Nat} (hi : am_is σ b 11) (h8 : am_s8 st) : ax k_M_found 39 ls (.int p3 :: .int p2 :: .int p1 :: .int p0 :: .ref b :: st) σ Q = ax k_M_isFound 0 [some (.ref b), some (.int p0), some (.int p1), some (.int p2), some (.int p3)] [] σ (ax_k k_M_found 42 ls st Q) := ru_vir (M' := rk_M_isFound) f_M_found_39 rfl rfl rfl rfl hi h8 rfl rfl rfl rfl rfl
theorem f_M_found_42 : am_cd k_M_found 42 = some ((some .int), .ifCond .ne 6, (48, 0, 0, 0, 0, .null)) := rfl
theorem s_M_found_42 {ls : am_L} {st : List Value} {σ : am_H} {Q : Option Value → am_H → Prop} {x : Int32} : ax k_M_found 42 ls (.int x :: st) σ Q = (if x = 0 then ax k_M_found 45 ls st σ Q else ax k_M_found 48 ls st σ Q) := (ru_if f_M_found_42 rfl).trans (ru_i_ne _ _ _ _)
theorem f_M_found_45 : am_cd k_M_found 45 = some ((some .int), .goto 16, (61, 0, 0, 0, 0, .null)) := rfl
theorem s_M_found_45 {ls : am_L} {st : List Value} {σ : am_H} {Q : Option Value → am_H → Prop} : ax k_M_found 45 ls st σ Q = ax k_M_found 61 ls st σ Q := ru_goto f_M_found_45
theorem f_M_found_48 : am_cd k_M_found 48 = some ((some .int), .iload 5, (0, 0, 0, 0, 0, .null)) := rfl
theorem s_M_found_48 {a0 a1 a2 a3 a4 a6 : Option Value} {st : List Value} {σ : am_H} {Q : Option Value → am_H → Prop} {x : Int32} : ax k_M_found 48 [a0, a1, a2, a3, a4, some (.int x), a6] st σ Q = ax k_M_found 50 [a0, a1, a2, a3, a4, some (.int x), a6] (.int x :: st) σ Q := ru_loc (q := (_, _)) f_M_found_48 rfl rfl rfl
theorem f_M_found_50 : am_cd k_M_found 50 = some ((some .int), .iload 4, (0, 0, 0, 0, 0, .null)) := rfl
theorem s_M_found_50 {a0 a1 a2 a3 a5 a6 : Option Value} {st : List Value} {σ : am_H} {Q : Option Value → am_H → Prop} {x : Int32} : ax k_M_found 50 [a0, a1, a2, a3, some (.int x), a5, a6] st σ Q = ax k_M_found 52 [a0, a1, a2, a3, some (.int x), a5, a6] (.int x :: st) σ Q := ru_loc (q := (_, _)) f_M_found_50 rfl rfl rfl
theorem f_M_found_52 : am_cd k_M_found 52 = some ((some .int), .if_icmp .ne 6, (58, 0, 0, 0, 0, .null)) := rfl
theorem s_M_found_52 {ls : am_L} {st : List Value} {σ : am_H} {Q : Option Value → am_H → Prop} {x y : Int32} : ax k_M_found 52 ls (.int y :: .int x :: st) σ Q = (if x = y then ax k_M_found 55 ls st σ Q else ax k_M_found 58 ls st σ Q) := (ru_icmp f_M_found_52 rfl).trans (ru_i_ne _ _ _ _)
theorem f_M_found_55 : am_cd k_M_found 55 = some ((some .int), .iload 6, (0, 0, 0, 0, 0, .null)) := rfl
theorem s_M_found_55 {a0 a1 a2 a3 a4 a5 : Option Value} {st : List Value} {σ : am_H} {Q : Option Value → am_H → Prop} {x : Int32} : ax k_M_found 55 [a0, a1, a2, a3, a4, a5, some (.int x)] st σ Q = ax k_M_found 57 [a0, a1, a2, a3, a4, a5, some (.int x)] (.int x :: st) σ Q := ru_loc (q := (_, _)) f_M_found_55 rfl rfl rfl
theorem f_M_found_57 : am_cd k_M_found 57 = some ((some .int), .ireturn, (0, 0, 0, 0, 0, .null)) := rfl
theorem s_M_found_57 {ls : am_L} {σ : am_H} {Q : Option Value → am_H → Prop} {v : Int32} : ax k_M_found 57 ls [.int v] σ Q = Q (some (.int v)) σ := ru_iretI f_M_found_57
theorem f_M_found_58 : am_cd k_M_found 58 = some ((some .int), .iinc 5 1, (0, 0, 0, 0, 0, .null)) := rfl
theorem s_M_found_58 {a0 a1 a2 a3 a4 a6 : Option Value} {st : List Value} {σ : am_H} {Q : Option Value → am_H → Prop} {x : Int32} (hc : am_c2 a4 = false) : ax k_M_found 58 [a0, a1, a2, a3, a4, some (.int x), a6] st σ Q = ax k_M_found 61 [a0, a1, a2, a3, a4, some (.int (x + 1)), a6] st σ Q := ru_iinc f_M_found_58 rfl (Nat.le_of_ble_eq_true rfl) (by decide +kernel) (ru_st1 (Nat.le_of_ble_eq_true rfl) (am_clr_c2 hc rfl) rfl) rfl
theorem f_M_found_61 : am_cd k_M_found 61 = some ((some .int), .iinc 6 1, (0, 0, 0, 0, 0, .null)) := rfl
theorem s_M_found_61 {a0 a1 a2 a3 a4 a5 : Option Value} {st : List Value} {σ : am_H} {Q : Option Value → am_H → Prop} {x : Int32} (hc : am_c2 a5 = false) : ax k_M_found 61 [a0, a1, a2, a3, a4, a5, some (.int x)] st σ Q = ax k_M_found 64 [a0, a1, a2, a3, a4, a5, some (.int (x + 1))] st σ Q := ru_iinc f_M_found_61 rfl (Nat.le_of_ble_eq_true rfl) (by decide +kernel) (ru_st1 (Nat.le_of_ble_eq_true rfl) (am_clr_c2 hc rfl) rfl) rfl
theorem f_M_found_64 : am_cd k_M_found 64 = some ((some .int), .goto (-40), (24, 0, 0, 0, 0, .null)) := rfl
theorem s_M_found_64 {ls : am_L} {st : List Value} {σ : am_H} {Q : Option Value → am_H → Prop} : ax k_M_found 64 ls st σ Q = ax k_M_found 24 ls st σ Q := ru_goto f_M_found_64
theorem f_M_found_67 : am_cd k_M_found 67 = some ((some .int), .iconst (-1), (0, 0, 0, 0, 0, .null)) := rfl
theorem s_M_found_67 {ls : am_L} {st : List Value} {σ : am_H} {Q : Option Value → am_H → Prop} : ax k_M_found 67 ls st σ Q = ax k_M_found 68 ls (.int (-1) :: st) σ Q := ru_iconst f_M_found_67 (by decide +kernel) rfl
theorem f_M_found_68 : am_cd k_M_found 68 = some ((some .int), .ireturn, (0, 0, 0, 0, 0, .null)) := rfl
theorem s_M_found_68 {ls : am_L} {σ : am_H} {Q : Option Value → am_H → Prop} {v : Int32} : ax k_M_found 68 ls [.int v] σ Q = Q (some (.int v)) σ := ru_iretI f_M_found_68
theorem f_M_farOf_0 : am_cd k_M_farOf 0 = some ((some .int), .iconst 0, (0, 0, 0, 0, 0, .null)) := rfl
theorem s_M_farOf_0 {ls : am_L} {st : List Value} {σ : am_H} {Q : Option Value → am_H → Prop} : ax k_M_farOf 0 ls st σ Q = ax k_M_farOf 1 ls (.int 0 :: st) σ Q := ru_iconst f_M_farOf_0 (by decide +kernel) rfl
theorem f_M_farOf_1 : am_cd k_M_farOf 1 = some ((some .int), .istore_n 3, (0, 0, 0, 0, 0, .null)) := rfl
theorem s_M_farOf_1 {a0 a1 a2 a3 a4 a5 : Option Value} {st : List Value} {σ : am_H} {Q : Option Value → am_H → Prop} {x : Int32} (hc : am_c2 a2 = false) : ax k_M_farOf 1 [a0, a1, a2, a3, a4, a5] (.int x :: st) σ Q = ax k_M_farOf 2 [a0, a1, a2, some (.int x), a4, a5] st σ Q := ru_istore_n f_M_farOf_1 (Nat.le_of_ble_eq_true rfl) (ru_st1 (Nat.le_of_ble_eq_true rfl) (am_clr_c2 hc rfl) rfl) rfl
theorem f_M_farOf_2 : am_cd k_M_farOf 2 = some ((some .int), .iconst 0, (0, 0, 0, 0, 0, .null)) := rfl
theorem s_M_farOf_2 {ls : am_L} {st : List Value} {σ : am_H} {Q : Option Value → am_H → Prop} : ax k_M_farOf 2 ls st σ Q = ax k_M_farOf 3 ls (.int 0 :: st) σ Q := ru_iconst f_M_farOf_2 (by decide +kernel) rfl
theorem f_M_farOf_3 : am_cd k_M_farOf 3 = some ((some .int), .istore 4, (0, 0, 0, 0, 0, .null)) := rfl
theorem s_M_farOf_3 {a0 a1 a2 a3 a4 a5 : Option Value} {st : List Value} {σ : am_H} {Q : Option Value → am_H → Prop} {x : Int32} (hc : am_c2 a3 = false) : ax k_M_farOf 3 [a0, a1, a2, a3, a4, a5] (.int x :: st) σ Q = ax k_M_farOf 5 [a0, a1, a2, a3, some (.int x), a5] st σ Q := ru_istore f_M_farOf_3 (Nat.le_of_ble_eq_true rfl) (ru_st1 (Nat.le_of_ble_eq_true rfl) (am_clr_c2 hc rfl) rfl) rfl
theorem f_M_farOf_5 : am_cd k_M_farOf 5 = some ((some .int), .iload 4, (0, 0, 0, 0, 0, .null)) := rfl
theorem s_M_farOf_5 {a0 a1 a2 a3 a5 : Option Value} {st : List Value} {σ : am_H} {Q : Option Value → am_H → Prop} {x : Int32} : ax k_M_farOf 5 [a0, a1, a2, a3, some (.int x), a5] st σ Q = ax k_M_farOf 7 [a0, a1, a2, a3, some (.int x), a5] (.int x :: st) σ Q := ru_loc (q := (_, _)) f_M_farOf_5 rfl rfl rfl
theorem f_M_farOf_7 : am_cd k_M_farOf 7 = some ((some .int), .bipush 16, (0, 0, 0, 0, 0, .null)) := rfl
theorem s_M_farOf_7 {ls : am_L} {st : List Value} {σ : am_H} {Q : Option Value → am_H → Prop} : ax k_M_farOf 7 ls st σ Q = ax k_M_farOf 9 ls (.int 16 :: st) σ Q := ru_bipush f_M_farOf_7 (by decide +kernel) rfl
theorem f_M_farOf_9 : am_cd k_M_farOf 9 = some ((some .int), .if_icmp .ge 52, (61, 0, 0, 0, 0, .null)) := rfl
theorem s_M_farOf_9 {ls : am_L} {st : List Value} {σ : am_H} {Q : Option Value → am_H → Prop} {x y : Int32} : ax k_M_farOf 9 ls (.int y :: .int x :: st) σ Q = (if x < y then ax k_M_farOf 12 ls st σ Q else ax k_M_farOf 61 ls st σ Q) := (ru_icmp f_M_farOf_9 rfl).trans (ru_i_ge _ _ _ _)
theorem f_M_farOf_12 : am_cd k_M_farOf 12 = some ((some .int), .aload_n 0, (0, 0, 0, 0, 0, .null)) := rfl
theorem s_M_farOf_12 {a1 a2 a3 a4 a5 : Option Value} {st : List Value} {σ : am_H} {Q : Option Value → am_H → Prop} {x : Nat} : ax k_M_farOf 12 [some (.ref x), a1, a2, a3, a4, a5] st σ Q = ax k_M_farOf 13 [some (.ref x), a1, a2, a3, a4, a5] (.ref x :: st) σ Q := ru_loc (q := (_, _)) f_M_farOf_12 rfl rfl rfl
theorem f_M_farOf_13 : am_cd k_M_farOf 13 = some ((some .int), .getfield 31, (11, 12, 929, 0, 3, .null)) := rfl
theorem s_M_farOf_13 {ls : am_L} {st : List Value} {σ : am_H} {Q : Option Value → am_H → Prop} {a : Nat} : ax k_M_farOf 13 ls (.ref a :: st) σ Q = ax_f (am_fld σ a 11 12) (fun v => ax k_M_farOf 16 ls (v :: st) σ Q) := ru_getf f_M_farOf_13 rfl
theorem f_M_farOf_16 : am_cd k_M_farOf 16 = some ((some .int), .bipush 16, (0, 0, 0, 0, 0, .null)) := rfl
theorem s_M_farOf_16 {ls : am_L} {st : List Value} {σ : am_H} {Q : Option Value → am_H → Prop} : ax k_M_farOf 16 ls st σ Q = ax k_M_farOf 18 ls (.int 16 :: st) σ Q := ru_bipush f_M_farOf_16 (by decide +kernel) rfl
theorem f_M_farOf_18 : am_cd k_M_farOf 18 = some ((some .int), .iload_n 1, (0, 0, 0, 0, 0, .null)) := rfl
theorem s_M_farOf_18 {a0 a2 a3 a4 a5 : Option Value} {st : List Value} {σ : am_H} {Q : Option Value → am_H → Prop} {x : Int32} : ax k_M_farOf 18 [a0, some (.int x), a2, a3, a4, a5] st σ Q = ax k_M_farOf 19 [a0, some (.int x), a2, a3, a4, a5] (.int x :: st) σ Q := ru_loc (q := (_, _)) f_M_farOf_18 rfl rfl rfl
theorem f_M_farOf_19 : am_cd k_M_farOf 19 = some ((some .int), .imul, (0, 0, 0, 0, 0, .null)) := rfl
theorem s_M_farOf_19 {ls : am_L} {st : List Value} {σ : am_H} {Q : Option Value → am_H → Prop} {x y : Int32} : ax k_M_farOf 19 ls (.int y :: .int x :: st) σ Q = ax k_M_farOf 20 ls (.int (x * y) :: st) σ Q := ru_pure f_M_farOf_19 rfl rfl
theorem f_M_farOf_20 : am_cd k_M_farOf 20 = some ((some .int), .iload 4, (0, 0, 0, 0, 0, .null)) := rfl
theorem s_M_farOf_20 {a0 a1 a2 a3 a5 : Option Value} {st : List Value} {σ : am_H} {Q : Option Value → am_H → Prop} {x : Int32} : ax k_M_farOf 20 [a0, a1, a2, a3, some (.int x), a5] st σ Q = ax k_M_farOf 22 [a0, a1, a2, a3, some (.int x), a5] (.int x :: st) σ Q := ru_loc (q := (_, _)) f_M_farOf_20 rfl rfl rfl
theorem f_M_farOf_22 : am_cd k_M_farOf 22 = some ((some .int), .iadd, (0, 0, 0, 0, 0, .null)) := rfl
theorem s_M_farOf_22 {ls : am_L} {st : List Value} {σ : am_H} {Q : Option Value → am_H → Prop} {x y : Int32} : ax k_M_farOf 22 ls (.int y :: .int x :: st) σ Q = ax k_M_farOf 23 ls (.int (x + y) :: st) σ Q := ru_pure f_M_farOf_22 rfl rfl
theorem f_M_farOf_23 : am_cd k_M_farOf 23 = some ((some .int), .iaload, (0, 0, 0, 0, 0, .null)) := rfl
theorem s_M_farOf_23 {ls : am_L} {st : List Value} {σ : am_H} {Q : Option Value → am_H → Prop} {a : Nat} {j : Int32} : ax k_M_farOf 23 ls (.int j :: .ref a :: st) σ Q = ax_f (am_j σ a) (fun q => q.1 = 0 ∧ am_ix j q.2.1 ∧ ax k_M_farOf 24 ls (.int (q.2.2 j.toNatClampNeg) :: st) σ Q) := rv_iald f_M_farOf_23 rfl
theorem f_M_farOf_24 : am_cd k_M_farOf 24 = some ((some .int), .aload_n 0, (0, 0, 0, 0, 0, .null)) := rfl
theorem s_M_farOf_24 {a1 a2 a3 a4 a5 : Option Value} {st : List Value} {σ : am_H} {Q : Option Value → am_H → Prop} {x : Nat} : ax k_M_farOf 24 [some (.ref x), a1, a2, a3, a4, a5] st σ Q = ax k_M_farOf 25 [some (.ref x), a1, a2, a3, a4, a5] (.ref x :: st) σ Q := ru_loc (q := (_, _)) f_M_farOf_24 rfl rfl rfl
theorem f_M_farOf_25 : am_cd k_M_farOf 25 = some ((some .int), .getfield 31, (11, 12, 929, 0, 3, .null)) := rfl
theorem s_M_farOf_25 {ls : am_L} {st : List Value} {σ : am_H} {Q : Option Value → am_H → Prop} {a : Nat} : ax k_M_farOf 25 ls (.ref a :: st) σ Q = ax_f (am_fld σ a 11 12) (fun v => ax k_M_farOf 28 ls (v :: st) σ Q) := ru_getf f_M_farOf_25 rfl
theorem f_M_farOf_28 : am_cd k_M_farOf 28 = some ((some .int), .bipush 16, (0, 0, 0, 0, 0, .null)) := rfl
theorem s_M_farOf_28 {ls : am_L} {st : List Value} {σ : am_H} {Q : Option Value → am_H → Prop} : ax k_M_farOf 28 ls st σ Q = ax k_M_farOf 30 ls (.int 16 :: st) σ Q := ru_bipush f_M_farOf_28 (by decide +kernel) rfl
theorem f_M_farOf_30 : am_cd k_M_farOf 30 = some ((some .int), .iload_n 2, (0, 0, 0, 0, 0, .null)) := rfl
theorem s_M_farOf_30 {a0 a1 a3 a4 a5 : Option Value} {st : List Value} {σ : am_H} {Q : Option Value → am_H → Prop} {x : Int32} : ax k_M_farOf 30 [a0, a1, some (.int x), a3, a4, a5] st σ Q = ax k_M_farOf 31 [a0, a1, some (.int x), a3, a4, a5] (.int x :: st) σ Q := ru_loc (q := (_, _)) f_M_farOf_30 rfl rfl rfl
theorem f_M_farOf_31 : am_cd k_M_farOf 31 = some ((some .int), .imul, (0, 0, 0, 0, 0, .null)) := rfl
theorem s_M_farOf_31 {ls : am_L} {st : List Value} {σ : am_H} {Q : Option Value → am_H → Prop} {x y : Int32} : ax k_M_farOf 31 ls (.int y :: .int x :: st) σ Q = ax k_M_farOf 32 ls (.int (x * y) :: st) σ Q := ru_pure f_M_farOf_31 rfl rfl
theorem f_M_farOf_32 : am_cd k_M_farOf 32 = some ((some .int), .iload 4, (0, 0, 0, 0, 0, .null)) := rfl
theorem s_M_farOf_32 {a0 a1 a2 a3 a5 : Option Value} {st : List Value} {σ : am_H} {Q : Option Value → am_H → Prop} {x : Int32} : ax k_M_farOf 32 [a0, a1, a2, a3, some (.int x), a5] st σ Q = ax k_M_farOf 34 [a0, a1, a2, a3, some (.int x), a5] (.int x :: st) σ Q := ru_loc (q := (_, _)) f_M_farOf_32 rfl rfl rfl
theorem f_M_farOf_34 : am_cd k_M_farOf 34 = some ((some .int), .iadd, (0, 0, 0, 0, 0, .null)) := rfl
theorem s_M_farOf_34 {ls : am_L} {st : List Value} {σ : am_H} {Q : Option Value → am_H → Prop} {x y : Int32} : ax k_M_farOf 34 ls (.int y :: .int x :: st) σ Q = ax k_M_farOf 35 ls (.int (x + y) :: st) σ Q := ru_pure f_M_farOf_34 rfl rfl
theorem f_M_farOf_35 : am_cd k_M_farOf 35 = some ((some .int), .iaload, (0, 0, 0, 0, 0, .null)) := rfl
theorem s_M_farOf_35 {ls : am_L} {st : List Value} {σ : am_H} {Q : Option Value → am_H → Prop} {a : Nat} {j : Int32} : ax k_M_farOf 35 ls (.int j :: .ref a :: st) σ Q = ax_f (am_j σ a) (fun q => q.1 = 0 ∧ am_ix j q.2.1 ∧ ax k_M_farOf 36 ls (.int (q.2.2 j.toNatClampNeg) :: st) σ Q) := rv_iald f_M_farOf_35 rfl
theorem f_M_farOf_36 : am_cd k_M_farOf 36 = some ((some .int), .isub, (0, 0, 0, 0, 0, .null)) := rfl
theorem s_M_farOf_36 {ls : am_L} {st : List Value} {σ : am_H} {Q : Option Value → am_H → Prop} {x y : Int32} : ax k_M_farOf 36 ls (.int y :: .int x :: st) σ Q = ax k_M_farOf 37 ls (.int (x - y) :: st) σ Q := ru_pure f_M_farOf_36 rfl rfl
theorem f_M_farOf_37 : am_cd k_M_farOf 37 = some ((some .int), .istore 5, (0, 0, 0, 0, 0, .null)) := rfl
theorem s_M_farOf_37 {a0 a1 a2 a3 a4 a5 : Option Value} {st : List Value} {σ : am_H} {Q : Option Value → am_H → Prop} {x : Int32} (hc : am_c2 a4 = false) : ax k_M_farOf 37 [a0, a1, a2, a3, a4, a5] (.int x :: st) σ Q = ax k_M_farOf 39 [a0, a1, a2, a3, a4, some (.int x)] st σ Q := ru_istore f_M_farOf_37 (Nat.le_of_ble_eq_true rfl) (ru_st1 (Nat.le_of_ble_eq_true rfl) (am_clr_c2 hc rfl) rfl) rfl
theorem f_M_farOf_39 : am_cd k_M_farOf 39 = some ((some .int), .iload_n 3, (0, 0, 0, 0, 0, .null)) := rfl
theorem s_M_farOf_39 {a0 a1 a2 a4 a5 : Option Value} {st : List Value} {σ : am_H} {Q : Option Value → am_H → Prop} {x : Int32} : ax k_M_farOf 39 [a0, a1, a2, some (.int x), a4, a5] st σ Q = ax k_M_farOf 40 [a0, a1, a2, some (.int x), a4, a5] (.int x :: st) σ Q := ru_loc (q := (_, _)) f_M_farOf_39 rfl rfl rfl
theorem f_M_farOf_40 : am_cd k_M_farOf 40 = some ((some .int), .iload 5, (0, 0, 0, 0, 0, .null)) := rfl
theorem s_M_farOf_40 {a0 a1 a2 a3 a4 : Option Value} {st : List Value} {σ : am_H} {Q : Option Value → am_H → Prop} {x : Int32} : ax k_M_farOf 40 [a0, a1, a2, a3, a4, some (.int x)] st σ Q = ax k_M_farOf 42 [a0, a1, a2, a3, a4, some (.int x)] (.int x :: st) σ Q := ru_loc (q := (_, _)) f_M_farOf_40 rfl rfl rfl
theorem f_M_farOf_42 : am_cd k_M_farOf 42 = some ((some .int), .ifCond .ge 9, (51, 0, 0, 0, 0, .null)) := rfl
theorem s_M_farOf_42 {ls : am_L} {st : List Value} {σ : am_H} {Q : Option Value → am_H → Prop} {x : Int32} : ax k_M_farOf 42 ls (.int x :: st) σ Q = (if x < 0 then ax k_M_farOf 45 ls st σ Q else ax k_M_farOf 51 ls st σ Q) := (ru_if f_M_farOf_42 rfl).trans (ru_i_ge _ _ _ _)
theorem f_M_farOf_45 : am_cd k_M_farOf 45 = some ((some .int), .iload 5, (0, 0, 0, 0, 0, .null)) := rfl
theorem s_M_farOf_45 {a0 a1 a2 a3 a4 : Option Value} {st : List Value} {σ : am_H} {Q : Option Value → am_H → Prop} {x : Int32} : ax k_M_farOf 45 [a0, a1, a2, a3, a4, some (.int x)] st σ Q = ax k_M_farOf 47 [a0, a1, a2, a3, a4, some (.int x)] (.int x :: st) σ Q := ru_loc (q := (_, _)) f_M_farOf_45 rfl rfl rfl
theorem f_M_farOf_47 : am_cd k_M_farOf 47 = some ((some .int), .ineg, (0, 0, 0, 0, 0, .null)) := rfl
theorem s_M_farOf_47 {ls : am_L} {st : List Value} {σ : am_H} {Q : Option Value → am_H → Prop} {x : Int32} : ax k_M_farOf 47 ls (.int x :: st) σ Q = ax k_M_farOf 48 ls (.int (-x) :: st) σ Q := ru_pure f_M_farOf_47 rfl rfl
theorem f_M_farOf_48 : am_cd k_M_farOf 48 = some ((some .int), .goto 5, (53, 0, 0, 0, 0, .null)) := rfl
theorem s_M_farOf_48 {ls : am_L} {st : List Value} {σ : am_H} {Q : Option Value → am_H → Prop} : ax k_M_farOf 48 ls st σ Q = ax k_M_farOf 53 ls st σ Q := ru_goto f_M_farOf_48
theorem f_M_farOf_51 : am_cd k_M_farOf 51 = some ((some .int), .iload 5, (0, 0, 0, 0, 0, .null)) := rfl
theorem s_M_farOf_51 {a0 a1 a2 a3 a4 : Option Value} {st : List Value} {σ : am_H} {Q : Option Value → am_H → Prop} {x : Int32} : ax k_M_farOf 51 [a0, a1, a2, a3, a4, some (.int x)] st σ Q = ax k_M_farOf 53 [a0, a1, a2, a3, a4, some (.int x)] (.int x :: st) σ Q := ru_loc (q := (_, _)) f_M_farOf_51 rfl rfl rfl
theorem f_M_farOf_53 : am_cd k_M_farOf 53 = some ((some .int), .iadd, (0, 0, 0, 0, 0, .null)) := rfl
theorem s_M_farOf_53 {ls : am_L} {st : List Value} {σ : am_H} {Q : Option Value → am_H → Prop} {x y : Int32} : ax k_M_farOf 53 ls (.int y :: .int x :: st) σ Q = ax k_M_farOf 54 ls (.int (x + y) :: st) σ Q := ru_pure f_M_farOf_53 rfl rfl
theorem f_M_farOf_54 : am_cd k_M_farOf 54 = some ((some .int), .istore_n 3, (0, 0, 0, 0, 0, .null)) := rfl
theorem s_M_farOf_54 {a0 a1 a2 a3 a4 a5 : Option Value} {st : List Value} {σ : am_H} {Q : Option Value → am_H → Prop} {x : Int32} (hc : am_c2 a2 = false) : ax k_M_farOf 54 [a0, a1, a2, a3, a4, a5] (.int x :: st) σ Q = ax k_M_farOf 55 [a0, a1, a2, some (.int x), a4, a5] st σ Q := ru_istore_n f_M_farOf_54 (Nat.le_of_ble_eq_true rfl) (ru_st1 (Nat.le_of_ble_eq_true rfl) (am_clr_c2 hc rfl) rfl) rfl
theorem f_M_farOf_55 : am_cd k_M_farOf 55 = some ((some .int), .iinc 4 1, (0, 0, 0, 0, 0, .null)) := rfl
theorem s_M_farOf_55 {a0 a1 a2 a3 a5 : Option Value} {st : List Value} {σ : am_H} {Q : Option Value → am_H → Prop} {x : Int32} (hc : am_c2 a3 = false) : ax k_M_farOf 55 [a0, a1, a2, a3, some (.int x), a5] st σ Q = ax k_M_farOf 58 [a0, a1, a2, a3, some (.int (x + 1)), a5] st σ Q := ru_iinc f_M_farOf_55 rfl (Nat.le_of_ble_eq_true rfl) (by decide +kernel) (ru_st1 (Nat.le_of_ble_eq_true rfl) (am_clr_c2 hc rfl) rfl) rfl
theorem f_M_farOf_58 : am_cd k_M_farOf 58 = some ((some .int), .goto (-53), (5, 0, 0, 0, 0, .null)) := rfl
theorem s_M_farOf_58 {ls : am_L} {st : List Value} {σ : am_H} {Q : Option Value → am_H → Prop} : ax k_M_farOf 58 ls st σ Q = ax k_M_farOf 5 ls st σ Q := ru_goto f_M_farOf_58
theorem f_M_farOf_61 : am_cd k_M_farOf 61 = some ((some .int), .iload_n 3, (0, 0, 0, 0, 0, .null)) := rfl
theorem s_M_farOf_61 {a0 a1 a2 a4 a5 : Option Value} {st : List Value} {σ : am_H} {Q : Option Value → am_H → Prop} {x : Int32} : ax k_M_farOf 61 [a0, a1, a2, some (.int x), a4, a5] st σ Q = ax k_M_farOf 62 [a0, a1, a2, some (.int x), a4, a5] (.int x :: st) σ Q := ru_loc (q := (_, _)) f_M_farOf_61 rfl rfl rfl
theorem f_M_farOf_62 : am_cd k_M_farOf 62 = some ((some .int), .ireturn, (0, 0, 0, 0, 0, .null)) := rfl
theorem s_M_farOf_62 {ls : am_L} {σ : am_H} {Q : Option Value → am_H → Prop} {v : Int32} : ax k_M_farOf 62 ls [.int v] σ Q = Q (some (.int v)) σ := ru_iretI f_M_farOf_62
theorem f_M_far_0 : am_cd k_M_far 0 = some ((some .int), .aload_n 0, (0, 0, 0, 0, 0, .null)) := rfl
theorem s_M_far_0 {a1 a2 : Option Value} {st : List Value} {σ : am_H} {Q : Option Value → am_H → Prop} {x : Nat} : ax k_M_far 0 [some (.ref x), a1, a2] st σ Q = ax k_M_far 1 [some (.ref x), a1, a2] (.ref x :: st) σ Q := ru_loc (q := (_, _)) f_M_far_0 rfl rfl rfl
theorem f_M_far_1 : am_cd k_M_far 1 = some ((some .int), .iload_n 1, (0, 0, 0, 0, 0, .null)) := rfl
theorem s_M_far_1 {a0 a2 : Option Value} {st : List Value} {σ : am_H} {Q : Option Value → am_H → Prop} {x : Int32} : ax k_M_far 1 [a0, some (.int x), a2] st σ Q = ax k_M_far 2 [a0, some (.int x), a2] (.int x :: st) σ Q := ru_loc (q := (_, _)) f_M_far_1 rfl rfl rfl
theorem f_M_far_2 : am_cd k_M_far 2 = some ((some .int), .invokevirtual 195, (115, 1, 1155, 0, 11, .null)) := rfl
theorem s_M_far_2 {ls : am_L} {st : List Value} {σ : am_H} {Q : Option Value → am_H → Prop} {p0 : Int32} {b : Nat} (hi : am_is σ b 11) (h8 : am_s8 st) : ax k_M_far 2 ls (.int p0 :: .ref b :: st) σ Q = ax k_M_isPicture 0 [some (.ref b), some (.int p0)] [] σ (ax_k k_M_far 5 ls st Q) := ru_vir (M' := rk_M_isPicture) f_M_far_2 rfl rfl rfl rfl hi h8 rfl rfl rfl rfl rfl
theorem f_M_far_5 : am_cd k_M_far 5 = some ((some .int), .ifCond .eq 20, (25, 0, 0, 0, 0, .null)) := rfl
theorem s_M_far_5 {ls : am_L} {st : List Value} {σ : am_H} {Q : Option Value → am_H → Prop} {x : Int32} : ax k_M_far 5 ls (.int x :: st) σ Q = (if x = 0 then ax k_M_far 25 ls st σ Q else ax k_M_far 8 ls st σ Q) := (ru_if f_M_far_5 rfl).trans (ru_i_eq _ _ _ _)
theorem f_M_far_8 : am_cd k_M_far 8 = some ((some .int), .aload_n 0, (0, 0, 0, 0, 0, .null)) := rfl
theorem s_M_far_8 {a1 a2 : Option Value} {st : List Value} {σ : am_H} {Q : Option Value → am_H → Prop} {x : Nat} : ax k_M_far 8 [some (.ref x), a1, a2] st σ Q = ax k_M_far 9 [some (.ref x), a1, a2] (.ref x :: st) σ Q := ru_loc (q := (_, _)) f_M_far_8 rfl rfl rfl
theorem f_M_far_9 : am_cd k_M_far 9 = some ((some .int), .iload_n 2, (0, 0, 0, 0, 0, .null)) := rfl
theorem s_M_far_9 {a0 a1 : Option Value} {st : List Value} {σ : am_H} {Q : Option Value → am_H → Prop} {x : Int32} : ax k_M_far 9 [a0, a1, some (.int x)] st σ Q = ax k_M_far 10 [a0, a1, some (.int x)] (.int x :: st) σ Q := ru_loc (q := (_, _)) f_M_far_9 rfl rfl rfl
theorem f_M_far_10 : am_cd k_M_far 10 = some ((some .int), .invokevirtual 195, (115, 1, 1155, 0, 11, .null)) := rfl
theorem s_M_far_10 {ls : am_L} {st : List Value} {σ : am_H} {Q : Option Value → am_H → Prop} {p0 : Int32} {b : Nat} (hi : am_is σ b 11) (h8 : am_s8 st) : ax k_M_far 10 ls (.int p0 :: .ref b :: st) σ Q = ax k_M_isPicture 0 [some (.ref b), some (.int p0)] [] σ (ax_k k_M_far 13 ls st Q) := ru_vir (M' := rk_M_isPicture) f_M_far_10 rfl rfl rfl rfl hi h8 rfl rfl rfl rfl rfl
theorem f_M_far_13 : am_cd k_M_far 13 = some ((some .int), .ifCond .eq 12, (25, 0, 0, 0, 0, .null)) := rfl
theorem s_M_far_13 {ls : am_L} {st : List Value} {σ : am_H} {Q : Option Value → am_H → Prop} {x : Int32} : ax k_M_far 13 ls (.int x :: st) σ Q = (if x = 0 then ax k_M_far 25 ls st σ Q else ax k_M_far 16 ls st σ Q) := (ru_if f_M_far_13 rfl).trans (ru_i_eq _ _ _ _)
theorem f_M_far_16 : am_cd k_M_far 16 = some ((some .int), .aload_n 0, (0, 0, 0, 0, 0, .null)) := rfl
theorem s_M_far_16 {a1 a2 : Option Value} {st : List Value} {σ : am_H} {Q : Option Value → am_H → Prop} {x : Nat} : ax k_M_far 16 [some (.ref x), a1, a2] st σ Q = ax k_M_far 17 [some (.ref x), a1, a2] (.ref x :: st) σ Q := ru_loc (q := (_, _)) f_M_far_16 rfl rfl rfl
theorem f_M_far_17 : am_cd k_M_far 17 = some ((some .int), .iload_n 1, (0, 0, 0, 0, 0, .null)) := rfl
theorem s_M_far_17 {a0 a2 : Option Value} {st : List Value} {σ : am_H} {Q : Option Value → am_H → Prop} {x : Int32} : ax k_M_far 17 [a0, some (.int x), a2] st σ Q = ax k_M_far 18 [a0, some (.int x), a2] (.int x :: st) σ Q := ru_loc (q := (_, _)) f_M_far_17 rfl rfl rfl
theorem f_M_far_18 : am_cd k_M_far 18 = some ((some .int), .iload_n 2, (0, 0, 0, 0, 0, .null)) := rfl
theorem s_M_far_18 {a0 a1 : Option Value} {st : List Value} {σ : am_H} {Q : Option Value → am_H → Prop} {x : Int32} : ax k_M_far 18 [a0, a1, some (.int x)] st σ Q = ax k_M_far 19 [a0, a1, some (.int x)] (.int x :: st) σ Q := ru_loc (q := (_, _)) f_M_far_18 rfl rfl rfl
theorem f_M_far_19 : am_cd k_M_far 19 = some ((some .int), .invokevirtual 208, (132, 2, 1187, 0, 11, .null)) := rfl
theorem s_M_far_19 {ls : am_L} {st : List Value} {σ : am_H} {Q : Option Value → am_H → Prop} {p0 : Int32} {p1 : Int32} {b : Nat} (hi : am_is σ b 11) (h8 : am_s8 st) : ax k_M_far 19 ls (.int p1 :: .int p0 :: .ref b :: st) σ Q = ax k_M_farOf 0 [some (.ref b), some (.int p0), some (.int p1), none, none, none] [] σ (ax_k k_M_far 22 ls st Q) := ru_vir (M' := rk_M_farOf) f_M_far_19 rfl rfl rfl rfl hi h8 rfl rfl rfl rfl rfl
theorem f_M_far_22 : am_cd k_M_far 22 = some ((some .int), .goto 4, (26, 0, 0, 0, 0, .null)) := rfl
theorem s_M_far_22 {ls : am_L} {st : List Value} {σ : am_H} {Q : Option Value → am_H → Prop} : ax k_M_far 22 ls st σ Q = ax k_M_far 26 ls st σ Q := ru_goto f_M_far_22
theorem f_M_far_25 : am_cd k_M_far 25 = some ((some .int), .iconst (-1), (0, 0, 0, 0, 0, .null)) := rfl
theorem s_M_far_25 {ls : am_L} {st : List Value} {σ : am_H} {Q : Option Value → am_H → Prop} : ax k_M_far 25 ls st σ Q = ax k_M_far 26 ls (.int (-1) :: st) σ Q := ru_iconst f_M_far_25 (by decide +kernel) rfl
theorem f_M_far_26 : am_cd k_M_far 26 = some ((some .int), .ireturn, (0, 0, 0, 0, 0, .null)) := rfl
theorem s_M_far_26 {ls : am_L} {σ : am_H} {Q : Option Value → am_H → Prop} {v : Int32} : ax k_M_far 26 ls [.int v] σ Q = Q (some (.int v)) σ := ru_iretI f_M_far_26
theorem f_M_limit_0 : am_cd k_M_limit 0 = some ((some .boolean), .iload_n 1, (0, 0, 0, 0, 0, .null)) := rfl
theorem s_M_limit_0 {a0 : Option Value} {st : List Value} {σ : am_H} {Q : Option Value → am_H → Prop} {x : Int32} : ax k_M_limit 0 [a0, some (.int x)] st σ Q = ax k_M_limit 1 [a0, some (.int x)] (.int x :: st) σ Q := ru_loc (q := (_, _)) f_M_limit_0 rfl rfl rfl
theorem f_M_limit_1 : am_cd k_M_limit 1 = some ((some .boolean), .iconst 0, (0, 0, 0, 0, 0, .null)) := rfl
theorem s_M_limit_1 {ls : am_L} {st : List Value} {σ : am_H} {Q : Option Value → am_H → Prop} : ax k_M_limit 1 ls st σ Q = ax k_M_limit 2 ls (.int 0 :: st) σ Q := ru_iconst f_M_limit_1 (by decide +kernel) rfl
theorem f_M_limit_2 : am_cd k_M_limit 2 = some ((some .boolean), .sipush 240, (0, 0, 0, 0, 0, .null)) := rfl
theorem s_M_limit_2 {ls : am_L} {st : List Value} {σ : am_H} {Q : Option Value → am_H → Prop} : ax k_M_limit 2 ls st σ Q = ax k_M_limit 5 ls (.int 240 :: st) σ Q := ru_sipush f_M_limit_2 (by decide +kernel) rfl
theorem f_M_limit_5 : am_cd k_M_limit 5 = some ((some .boolean), .invokestatic 154, (113, 3, 1110, 0, 11, .null)) := rfl
theorem s_M_limit_5 {ls : am_L} {st : List Value} {σ : am_H} {Q : Option Value → am_H → Prop} {p0 : Int32} {p1 : Int32} {p2 : Int32} (h8 : am_s8 st) : ax k_M_limit 5 ls (.int p2 :: .int p1 :: .int p0 :: st) σ Q = ax k_M_isIn 0 [some (.int p0), some (.int p1), some (.int p2)] [] σ (ax_k k_M_limit 8 ls st Q) := ru_sta (M' := rk_M_isIn) f_M_limit_5 rfl (by decide) rfl (by simp) rfl h8 rfl rfl rfl rfl rfl
theorem f_M_limit_8 : am_cd k_M_limit 8 = some ((some .boolean), .ifCond .ne 5, (13, 0, 0, 0, 0, .null)) := rfl
theorem s_M_limit_8 {ls : am_L} {st : List Value} {σ : am_H} {Q : Option Value → am_H → Prop} {x : Int32} : ax k_M_limit 8 ls (.int x :: st) σ Q = (if x = 0 then ax k_M_limit 11 ls st σ Q else ax k_M_limit 13 ls st σ Q) := (ru_if f_M_limit_8 rfl).trans (ru_i_ne _ _ _ _)
theorem f_M_limit_11 : am_cd k_M_limit 11 = some ((some .boolean), .iconst 0, (0, 0, 0, 0, 0, .null)) := rfl
theorem s_M_limit_11 {ls : am_L} {st : List Value} {σ : am_H} {Q : Option Value → am_H → Prop} : ax k_M_limit 11 ls st σ Q = ax k_M_limit 12 ls (.int 0 :: st) σ Q := ru_iconst f_M_limit_11 (by decide +kernel) rfl
theorem f_M_limit_12 : am_cd k_M_limit 12 = some ((some .boolean), .ireturn, (0, 0, 0, 0, 0, .null)) := rfl
theorem s_M_limit_12 {ls : am_L} {σ : am_H} {Q : Option Value → am_H → Prop} {v : Int32} : ax k_M_limit 12 ls ([.int v]) σ Q = (am_nar .boolean v = true ∧ Q (some (.int v)) σ) := ru_iret f_M_limit_12
theorem f_M_limit_13 : am_cd k_M_limit 13 = some ((some .boolean), .aload_n 0, (0, 0, 0, 0, 0, .null)) := rfl
theorem s_M_limit_13 {a1 : Option Value} {st : List Value} {σ : am_H} {Q : Option Value → am_H → Prop} {x : Nat} : ax k_M_limit 13 [some (.ref x), a1] st σ Q = ax k_M_limit 14 [some (.ref x), a1] (.ref x :: st) σ Q := ru_loc (q := (_, _)) f_M_limit_13 rfl rfl rfl
theorem f_M_limit_14 : am_cd k_M_limit 14 = some ((some .boolean), .iload_n 1, (0, 0, 0, 0, 0, .null)) := rfl
theorem s_M_limit_14 {a0 : Option Value} {st : List Value} {σ : am_H} {Q : Option Value → am_H → Prop} {x : Int32} : ax k_M_limit 14 [a0, some (.int x)] st σ Q = ax k_M_limit 15 [a0, some (.int x)] (.int x :: st) σ Q := ru_loc (q := (_, _)) f_M_limit_14 rfl rfl rfl
theorem f_M_limit_15 : am_cd k_M_limit 15 = some ((some .boolean), .putfield 47, (11, 18, 935, 0, 0, .null)) := rfl
theorem s_M_limit_15 {ls : am_L} {st : List Value} {σ : am_H} {Q : Option Value → am_H → Prop} {a : Nat} {v : Value} : ax k_M_limit 15 ls (v :: .ref a :: st) σ Q = ax_f (am_fld σ a 11 18) (fun _ => a < am_top ∧ am_okv 0 v = true ∧ ax k_M_limit 18 ls st (am_put σ a 18 v) Q) := ru_putf f_M_limit_15 rfl
theorem f_M_limit_18 : am_cd k_M_limit 18 = some ((some .boolean), .iconst 1, (0, 0, 0, 0, 0, .null)) := rfl
theorem s_M_limit_18 {ls : am_L} {st : List Value} {σ : am_H} {Q : Option Value → am_H → Prop} : ax k_M_limit 18 ls st σ Q = ax k_M_limit 19 ls (.int 1 :: st) σ Q := ru_iconst f_M_limit_18 (by decide +kernel) rfl
theorem f_M_limit_19 : am_cd k_M_limit 19 = some ((some .boolean), .ireturn, (0, 0, 0, 0, 0, .null)) := rfl
theorem s_M_limit_19 {ls : am_L} {σ : am_H} {Q : Option Value → am_H → Prop} {v : Int32} : ax k_M_limit 19 ls ([.int v]) σ Q = (am_nar .boolean v = true ∧ Q (some (.int v)) σ) := ru_iret f_M_limit_19
theorem f_M_spread_0 : am_cd k_M_spread 0 = some (none, .iconst 0, (0, 0, 0, 0, 0, .null)) := rfl
theorem s_M_spread_0 {ls : am_L} {st : List Value} {σ : am_H} {Q : Option Value → am_H → Prop} : ax k_M_spread 0 ls st σ Q = ax k_M_spread 1 ls (.int 0 :: st) σ Q := ru_iconst f_M_spread_0 (by decide +kernel) rfl
theorem f_M_spread_1 : am_cd k_M_spread 1 = some (none, .istore_n 2, (0, 0, 0, 0, 0, .null)) := rfl
theorem s_M_spread_1 {a0 a1 a2 a3 a4 : Option Value} {st : List Value} {σ : am_H} {Q : Option Value → am_H → Prop} {x : Int32} (hc : am_c2 a1 = false) : ax k_M_spread 1 [a0, a1, a2, a3, a4] (.int x :: st) σ Q = ax k_M_spread 2 [a0, a1, some (.int x), a3, a4] st σ Q := ru_istore_n f_M_spread_1 (Nat.le_of_ble_eq_true rfl) (ru_st1 (Nat.le_of_ble_eq_true rfl) (am_clr_c2 hc rfl) rfl) rfl
theorem f_M_spread_2 : am_cd k_M_spread 2 = some (none, .iload_n 2, (0, 0, 0, 0, 0, .null)) := rfl
theorem s_M_spread_2 {a0 a1 a3 a4 : Option Value} {st : List Value} {σ : am_H} {Q : Option Value → am_H → Prop} {x : Int32} : ax k_M_spread 2 [a0, a1, some (.int x), a3, a4] st σ Q = ax k_M_spread 3 [a0, a1, some (.int x), a3, a4] (.int x :: st) σ Q := ru_loc (q := (_, _)) f_M_spread_2 rfl rfl rfl
theorem f_M_spread_3 : am_cd k_M_spread 3 = some (none, .aload_n 0, (0, 0, 0, 0, 0, .null)) := rfl
theorem s_M_spread_3 {a1 a2 a3 a4 : Option Value} {st : List Value} {σ : am_H} {Q : Option Value → am_H → Prop} {x : Nat} : ax k_M_spread 3 [some (.ref x), a1, a2, a3, a4] st σ Q = ax k_M_spread 4 [some (.ref x), a1, a2, a3, a4] (.ref x :: st) σ Q := ru_loc (q := (_, _)) f_M_spread_3 rfl rfl rfl
theorem f_M_spread_4 : am_cd k_M_spread 4 = some (none, .getfield 158, (11, 7, 924, 0, 0, .null)) := rfl
theorem s_M_spread_4 {ls : am_L} {st : List Value} {σ : am_H} {Q : Option Value → am_H → Prop} {a : Nat} : ax k_M_spread 4 ls (.ref a :: st) σ Q = ax_f (am_fld σ a 11 7) (fun v => ax k_M_spread 7 ls (v :: st) σ Q) := ru_getf f_M_spread_4 rfl
theorem f_M_spread_7 : am_cd k_M_spread 7 = some (none, .if_icmp .ge 25, (32, 0, 0, 0, 0, .null)) := rfl
theorem s_M_spread_7 {ls : am_L} {st : List Value} {σ : am_H} {Q : Option Value → am_H → Prop} {x y : Int32} : ax k_M_spread 7 ls (.int y :: .int x :: st) σ Q = (if x < y then ax k_M_spread 10 ls st σ Q else ax k_M_spread 32 ls st σ Q) := (ru_icmp f_M_spread_7 rfl).trans (ru_i_ge _ _ _ _)
theorem f_M_spread_10 : am_cd k_M_spread 10 = some (none, .aload_n 0, (0, 0, 0, 0, 0, .null)) := rfl
theorem s_M_spread_10 {a1 a2 a3 a4 : Option Value} {st : List Value} {σ : am_H} {Q : Option Value → am_H → Prop} {x : Nat} : ax k_M_spread 10 [some (.ref x), a1, a2, a3, a4] st σ Q = ax k_M_spread 11 [some (.ref x), a1, a2, a3, a4] (.ref x :: st) σ Q := ru_loc (q := (_, _)) f_M_spread_10 rfl rfl rfl
theorem f_M_spread_11 : am_cd k_M_spread 11 = some (none, .getfield 69, (11, 27, 944, 0, 3, .null)) := rfl
theorem s_M_spread_11 {ls : am_L} {st : List Value} {σ : am_H} {Q : Option Value → am_H → Prop} {a : Nat} : ax k_M_spread 11 ls (.ref a :: st) σ Q = ax_f (am_fld σ a 11 27) (fun v => ax k_M_spread 14 ls (v :: st) σ Q) := ru_getf f_M_spread_11 rfl
theorem f_M_spread_14 : am_cd k_M_spread 14 = some (none, .iload_n 2, (0, 0, 0, 0, 0, .null)) := rfl
theorem s_M_spread_14 {a0 a1 a3 a4 : Option Value} {st : List Value} {σ : am_H} {Q : Option Value → am_H → Prop} {x : Int32} : ax k_M_spread 14 [a0, a1, some (.int x), a3, a4] st σ Q = ax k_M_spread 15 [a0, a1, some (.int x), a3, a4] (.int x :: st) σ Q := ru_loc (q := (_, _)) f_M_spread_14 rfl rfl rfl
theorem f_M_spread_15 : am_cd k_M_spread 15 = some (none, .iload_n 2, (0, 0, 0, 0, 0, .null)) := rfl
theorem s_M_spread_15 {a0 a1 a3 a4 : Option Value} {st : List Value} {σ : am_H} {Q : Option Value → am_H → Prop} {x : Int32} : ax k_M_spread 15 [a0, a1, some (.int x), a3, a4] st σ Q = ax k_M_spread 16 [a0, a1, some (.int x), a3, a4] (.int x :: st) σ Q := ru_loc (q := (_, _)) f_M_spread_15 rfl rfl rfl
theorem f_M_spread_16 : am_cd k_M_spread 16 = some (none, .iload_n 1, (0, 0, 0, 0, 0, .null)) := rfl
theorem s_M_spread_16 {a0 a2 a3 a4 : Option Value} {st : List Value} {σ : am_H} {Q : Option Value → am_H → Prop} {x : Int32} : ax k_M_spread 16 [a0, some (.int x), a2, a3, a4] st σ Q = ax k_M_spread 17 [a0, some (.int x), a2, a3, a4] (.int x :: st) σ Q := ru_loc (q := (_, _)) f_M_spread_16 rfl rfl rfl
theorem f_M_spread_17 : am_cd k_M_spread 17 = some (none, .if_icmp .ne 7, (24, 0, 0, 0, 0, .null)) := rfl
theorem s_M_spread_17 {ls : am_L} {st : List Value} {σ : am_H} {Q : Option Value → am_H → Prop} {x y : Int32} : ax k_M_spread 17 ls (.int y :: .int x :: st) σ Q = (if x = y then ax k_M_spread 20 ls st σ Q else ax k_M_spread 24 ls st σ Q) := (ru_icmp f_M_spread_17 rfl).trans (ru_i_ne _ _ _ _)
theorem f_M_spread_20 : am_cd k_M_spread 20 = some (none, .iconst 1, (0, 0, 0, 0, 0, .null)) := rfl
theorem s_M_spread_20 {ls : am_L} {st : List Value} {σ : am_H} {Q : Option Value → am_H → Prop} : ax k_M_spread 20 ls st σ Q = ax k_M_spread 21 ls (.int 1 :: st) σ Q := ru_iconst f_M_spread_20 (by decide +kernel) rfl
theorem f_M_spread_21 : am_cd k_M_spread 21 = some (none, .goto 4, (25, 0, 0, 0, 0, .null)) := rfl
theorem s_M_spread_21 {ls : am_L} {st : List Value} {σ : am_H} {Q : Option Value → am_H → Prop} : ax k_M_spread 21 ls st σ Q = ax k_M_spread 25 ls st σ Q := ru_goto f_M_spread_21
theorem f_M_spread_24 : am_cd k_M_spread 24 = some (none, .iconst 0, (0, 0, 0, 0, 0, .null)) := rfl
theorem s_M_spread_24 {ls : am_L} {st : List Value} {σ : am_H} {Q : Option Value → am_H → Prop} : ax k_M_spread 24 ls st σ Q = ax k_M_spread 25 ls (.int 0 :: st) σ Q := ru_iconst f_M_spread_24 (by decide +kernel) rfl
theorem f_M_spread_25 : am_cd k_M_spread 25 = some (none, .bastore, (0, 0, 0, 0, 0, .null)) := rfl
theorem s_M_spread_25 {ls : am_L} {st : List Value} {σ : am_H} {Q : Option Value → am_H → Prop} {a : Nat} {j x : Int32} : ax k_M_spread 25 ls (.int x :: .int j :: .ref a :: st) σ Q = ax_f (am_j σ a) (fun q => q.1 = 1 ∧ am_ix j q.2.1 ∧ a < am_top ∧ (x = 0 ∨ x = 1) ∧ ax k_M_spread 26 ls st (am_set σ a (am_ia 1 q.2.1 (upd q.2.2 j.toNatClampNeg x))) Q) := rv_zast f_M_spread_25 rfl
theorem f_M_spread_26 : am_cd k_M_spread 26 = some (none, .iinc 2 1, (0, 0, 0, 0, 0, .null)) := rfl
theorem s_M_spread_26 {a0 a1 a3 a4 : Option Value} {st : List Value} {σ : am_H} {Q : Option Value → am_H → Prop} {x : Int32} (hc : am_c2 a1 = false) : ax k_M_spread 26 [a0, a1, some (.int x), a3, a4] st σ Q = ax k_M_spread 29 [a0, a1, some (.int (x + 1)), a3, a4] st σ Q := ru_iinc f_M_spread_26 rfl (Nat.le_of_ble_eq_true rfl) (by decide +kernel) (ru_st1 (Nat.le_of_ble_eq_true rfl) (am_clr_c2 hc rfl) rfl) rfl
theorem f_M_spread_29 : am_cd k_M_spread 29 = some (none, .goto (-27), (2, 0, 0, 0, 0, .null)) := rfl
theorem s_M_spread_29 {ls : am_L} {st : List Value} {σ : am_H} {Q : Option Value → am_H → Prop} : ax k_M_spread 29 ls st σ Q = ax k_M_spread 2 ls st σ Q := ru_goto f_M_spread_29
theorem f_M_spread_32 : am_cd k_M_spread 32 = some (none, .iconst 1, (0, 0, 0, 0, 0, .null)) := rfl
theorem s_M_spread_32 {ls : am_L} {st : List Value} {σ : am_H} {Q : Option Value → am_H → Prop} : ax k_M_spread 32 ls st σ Q = ax k_M_spread 33 ls (.int 1 :: st) σ Q := ru_iconst f_M_spread_32 (by decide +kernel) rfl
theorem f_M_spread_33 : am_cd k_M_spread 33 = some (none, .istore_n 2, (0, 0, 0, 0, 0, .null)) := rfl
theorem s_M_spread_33 {a0 a1 a2 a3 a4 : Option Value} {st : List Value} {σ : am_H} {Q : Option Value → am_H → Prop} {x : Int32} (hc : am_c2 a1 = false) : ax k_M_spread 33 [a0, a1, a2, a3, a4] (.int x :: st) σ Q = ax k_M_spread 34 [a0, a1, some (.int x), a3, a4] st σ Q := ru_istore_n f_M_spread_33 (Nat.le_of_ble_eq_true rfl) (ru_st1 (Nat.le_of_ble_eq_true rfl) (am_clr_c2 hc rfl) rfl) rfl
theorem f_M_spread_34 : am_cd k_M_spread 34 = some (none, .iload_n 2, (0, 0, 0, 0, 0, .null)) := rfl
theorem s_M_spread_34 {a0 a1 a3 a4 : Option Value} {st : List Value} {σ : am_H} {Q : Option Value → am_H → Prop} {x : Int32} : ax k_M_spread 34 [a0, a1, some (.int x), a3, a4] st σ Q = ax k_M_spread 35 [a0, a1, some (.int x), a3, a4] (.int x :: st) σ Q := ru_loc (q := (_, _)) f_M_spread_34 rfl rfl rfl
theorem f_M_spread_35 : am_cd k_M_spread 35 = some (none, .ifCond .eq 87, (122, 0, 0, 0, 0, .null)) := rfl
theorem s_M_spread_35 {ls : am_L} {st : List Value} {σ : am_H} {Q : Option Value → am_H → Prop} {x : Int32} : ax k_M_spread 35 ls (.int x :: st) σ Q = (if x = 0 then ax k_M_spread 122 ls st σ Q else ax k_M_spread 38 ls st σ Q) := (ru_if f_M_spread_35 rfl).trans (ru_i_eq _ _ _ _)
theorem f_M_spread_38 : am_cd k_M_spread 38 = some (none, .iconst 0, (0, 0, 0, 0, 0, .null)) := rfl
theorem s_M_spread_38 {ls : am_L} {st : List Value} {σ : am_H} {Q : Option Value → am_H → Prop} : ax k_M_spread 38 ls st σ Q = ax k_M_spread 39 ls (.int 0 :: st) σ Q := ru_iconst f_M_spread_38 (by decide +kernel) rfl
theorem f_M_spread_39 : am_cd k_M_spread 39 = some (none, .istore_n 2, (0, 0, 0, 0, 0, .null)) := rfl
theorem s_M_spread_39 {a0 a1 a2 a3 a4 : Option Value} {st : List Value} {σ : am_H} {Q : Option Value → am_H → Prop} {x : Int32} (hc : am_c2 a1 = false) : ax k_M_spread 39 [a0, a1, a2, a3, a4] (.int x :: st) σ Q = ax k_M_spread 40 [a0, a1, some (.int x), a3, a4] st σ Q := ru_istore_n f_M_spread_39 (Nat.le_of_ble_eq_true rfl) (ru_st1 (Nat.le_of_ble_eq_true rfl) (am_clr_c2 hc rfl) rfl) rfl
theorem f_M_spread_40 : am_cd k_M_spread 40 = some (none, .iconst 0, (0, 0, 0, 0, 0, .null)) := rfl
theorem s_M_spread_40 {ls : am_L} {st : List Value} {σ : am_H} {Q : Option Value → am_H → Prop} : ax k_M_spread 40 ls st σ Q = ax k_M_spread 41 ls (.int 0 :: st) σ Q := ru_iconst f_M_spread_40 (by decide +kernel) rfl
theorem f_M_spread_41 : am_cd k_M_spread 41 = some (none, .istore_n 3, (0, 0, 0, 0, 0, .null)) := rfl
theorem s_M_spread_41 {a0 a1 a2 a3 a4 : Option Value} {st : List Value} {σ : am_H} {Q : Option Value → am_H → Prop} {x : Int32} (hc : am_c2 a2 = false) : ax k_M_spread 41 [a0, a1, a2, a3, a4] (.int x :: st) σ Q = ax k_M_spread 42 [a0, a1, a2, some (.int x), a4] st σ Q := ru_istore_n f_M_spread_41 (Nat.le_of_ble_eq_true rfl) (ru_st1 (Nat.le_of_ble_eq_true rfl) (am_clr_c2 hc rfl) rfl) rfl
theorem f_M_spread_42 : am_cd k_M_spread 42 = some (none, .iload_n 3, (0, 0, 0, 0, 0, .null)) := rfl
theorem s_M_spread_42 {a0 a1 a2 a4 : Option Value} {st : List Value} {σ : am_H} {Q : Option Value → am_H → Prop} {x : Int32} : ax k_M_spread 42 [a0, a1, a2, some (.int x), a4] st σ Q = ax k_M_spread 43 [a0, a1, a2, some (.int x), a4] (.int x :: st) σ Q := ru_loc (q := (_, _)) f_M_spread_42 rfl rfl rfl
theorem f_M_spread_43 : am_cd k_M_spread 43 = some (none, .aload_n 0, (0, 0, 0, 0, 0, .null)) := rfl
theorem s_M_spread_43 {a1 a2 a3 a4 : Option Value} {st : List Value} {σ : am_H} {Q : Option Value → am_H → Prop} {x : Nat} : ax k_M_spread 43 [some (.ref x), a1, a2, a3, a4] st σ Q = ax k_M_spread 44 [some (.ref x), a1, a2, a3, a4] (.ref x :: st) σ Q := ru_loc (q := (_, _)) f_M_spread_43 rfl rfl rfl
theorem f_M_spread_44 : am_cd k_M_spread 44 = some (none, .getfield 158, (11, 7, 924, 0, 0, .null)) := rfl
theorem s_M_spread_44 {ls : am_L} {st : List Value} {σ : am_H} {Q : Option Value → am_H → Prop} {a : Nat} : ax k_M_spread 44 ls (.ref a :: st) σ Q = ax_f (am_fld σ a 11 7) (fun v => ax k_M_spread 47 ls (v :: st) σ Q) := ru_getf f_M_spread_44 rfl
theorem f_M_spread_47 : am_cd k_M_spread 47 = some (none, .if_icmp .ge 72, (119, 0, 0, 0, 0, .null)) := rfl
theorem s_M_spread_47 {ls : am_L} {st : List Value} {σ : am_H} {Q : Option Value → am_H → Prop} {x y : Int32} : ax k_M_spread 47 ls (.int y :: .int x :: st) σ Q = (if x < y then ax k_M_spread 50 ls st σ Q else ax k_M_spread 119 ls st σ Q) := (ru_icmp f_M_spread_47 rfl).trans (ru_i_ge _ _ _ _)
theorem f_M_spread_50 : am_cd k_M_spread 50 = some (none, .iconst 0, (0, 0, 0, 0, 0, .null)) := rfl
theorem s_M_spread_50 {ls : am_L} {st : List Value} {σ : am_H} {Q : Option Value → am_H → Prop} : ax k_M_spread 50 ls st σ Q = ax k_M_spread 51 ls (.int 0 :: st) σ Q := ru_iconst f_M_spread_50 (by decide +kernel) rfl
theorem f_M_spread_51 : am_cd k_M_spread 51 = some (none, .istore 4, (0, 0, 0, 0, 0, .null)) := rfl
theorem s_M_spread_51 {a0 a1 a2 a3 a4 : Option Value} {st : List Value} {σ : am_H} {Q : Option Value → am_H → Prop} {x : Int32} (hc : am_c2 a3 = false) : ax k_M_spread 51 [a0, a1, a2, a3, a4] (.int x :: st) σ Q = ax k_M_spread 53 [a0, a1, a2, a3, some (.int x)] st σ Q := ru_istore f_M_spread_51 (Nat.le_of_ble_eq_true rfl) (ru_st1 (Nat.le_of_ble_eq_true rfl) (am_clr_c2 hc rfl) rfl) rfl
theorem f_M_spread_53 : am_cd k_M_spread 53 = some (none, .iload 4, (0, 0, 0, 0, 0, .null)) := rfl
theorem s_M_spread_53 {a0 a1 a2 a3 : Option Value} {st : List Value} {σ : am_H} {Q : Option Value → am_H → Prop} {x : Int32} : ax k_M_spread 53 [a0, a1, a2, a3, some (.int x)] st σ Q = ax k_M_spread 55 [a0, a1, a2, a3, some (.int x)] (.int x :: st) σ Q := ru_loc (q := (_, _)) f_M_spread_53 rfl rfl rfl
theorem f_M_spread_55 : am_cd k_M_spread 55 = some (none, .aload_n 0, (0, 0, 0, 0, 0, .null)) := rfl
theorem s_M_spread_55 {a1 a2 a3 a4 : Option Value} {st : List Value} {σ : am_H} {Q : Option Value → am_H → Prop} {x : Nat} : ax k_M_spread 55 [some (.ref x), a1, a2, a3, a4] st σ Q = ax k_M_spread 56 [some (.ref x), a1, a2, a3, a4] (.ref x :: st) σ Q := ru_loc (q := (_, _)) f_M_spread_55 rfl rfl rfl
theorem f_M_spread_56 : am_cd k_M_spread 56 = some (none, .getfield 158, (11, 7, 924, 0, 0, .null)) := rfl
theorem s_M_spread_56 {ls : am_L} {st : List Value} {σ : am_H} {Q : Option Value → am_H → Prop} {a : Nat} : ax k_M_spread 56 ls (.ref a :: st) σ Q = ax_f (am_fld σ a 11 7) (fun v => ax k_M_spread 59 ls (v :: st) σ Q) := ru_getf f_M_spread_56 rfl
theorem f_M_spread_59 : am_cd k_M_spread 59 = some (none, .if_icmp .ge 54, (113, 0, 0, 0, 0, .null)) := rfl
theorem s_M_spread_59 {ls : am_L} {st : List Value} {σ : am_H} {Q : Option Value → am_H → Prop} {x y : Int32} : ax k_M_spread 59 ls (.int y :: .int x :: st) σ Q = (if x < y then ax k_M_spread 62 ls st σ Q else ax k_M_spread 113 ls st σ Q) := (ru_icmp f_M_spread_59 rfl).trans (ru_i_ge _ _ _ _)
theorem f_M_spread_62 : am_cd k_M_spread 62 = some (none, .aload_n 0, (0, 0, 0, 0, 0, .null)) := rfl
theorem s_M_spread_62 {a1 a2 a3 a4 : Option Value} {st : List Value} {σ : am_H} {Q : Option Value → am_H → Prop} {x : Nat} : ax k_M_spread 62 [some (.ref x), a1, a2, a3, a4] st σ Q = ax k_M_spread 63 [some (.ref x), a1, a2, a3, a4] (.ref x :: st) σ Q := ru_loc (q := (_, _)) f_M_spread_62 rfl rfl rfl
theorem f_M_spread_63 : am_cd k_M_spread 63 = some (none, .getfield 69, (11, 27, 944, 0, 3, .null)) := rfl
theorem s_M_spread_63 {ls : am_L} {st : List Value} {σ : am_H} {Q : Option Value → am_H → Prop} {a : Nat} : ax k_M_spread 63 ls (.ref a :: st) σ Q = ax_f (am_fld σ a 11 27) (fun v => ax k_M_spread 66 ls (v :: st) σ Q) := ru_getf f_M_spread_63 rfl
theorem f_M_spread_66 : am_cd k_M_spread 66 = some (none, .iload_n 3, (0, 0, 0, 0, 0, .null)) := rfl
theorem s_M_spread_66 {a0 a1 a2 a4 : Option Value} {st : List Value} {σ : am_H} {Q : Option Value → am_H → Prop} {x : Int32} : ax k_M_spread 66 [a0, a1, a2, some (.int x), a4] st σ Q = ax k_M_spread 67 [a0, a1, a2, some (.int x), a4] (.int x :: st) σ Q := ru_loc (q := (_, _)) f_M_spread_66 rfl rfl rfl
theorem f_M_spread_67 : am_cd k_M_spread 67 = some (none, .baload, (0, 0, 0, 0, 0, .null)) := rfl
theorem s_M_spread_67 {ls : am_L} {st : List Value} {σ : am_H} {Q : Option Value → am_H → Prop} {a : Nat} {j : Int32} : ax k_M_spread 67 ls (.int j :: .ref a :: st) σ Q = ax_f (am_j σ a) (fun q => (q.1 = 1 ∨ q.1 = 2) ∧ am_ix j q.2.1 ∧ ax k_M_spread 68 ls (.int (q.2.2 j.toNatClampNeg) :: st) σ Q) := rv_bald f_M_spread_67 rfl
theorem f_M_spread_68 : am_cd k_M_spread 68 = some (none, .ifCond .ne 45, (113, 0, 0, 0, 0, .null)) := rfl
theorem s_M_spread_68 {ls : am_L} {st : List Value} {σ : am_H} {Q : Option Value → am_H → Prop} {x : Int32} : ax k_M_spread 68 ls (.int x :: st) σ Q = (if x = 0 then ax k_M_spread 71 ls st σ Q else ax k_M_spread 113 ls st σ Q) := (ru_if f_M_spread_68 rfl).trans (ru_i_ne _ _ _ _)
theorem f_M_spread_71 : am_cd k_M_spread 71 = some (none, .aload_n 0, (0, 0, 0, 0, 0, .null)) := rfl
theorem s_M_spread_71 {a1 a2 a3 a4 : Option Value} {st : List Value} {σ : am_H} {Q : Option Value → am_H → Prop} {x : Nat} : ax k_M_spread 71 [some (.ref x), a1, a2, a3, a4] st σ Q = ax k_M_spread 72 [some (.ref x), a1, a2, a3, a4] (.ref x :: st) σ Q := ru_loc (q := (_, _)) f_M_spread_71 rfl rfl rfl
theorem f_M_spread_72 : am_cd k_M_spread 72 = some (none, .getfield 69, (11, 27, 944, 0, 3, .null)) := rfl
theorem s_M_spread_72 {ls : am_L} {st : List Value} {σ : am_H} {Q : Option Value → am_H → Prop} {a : Nat} : ax k_M_spread 72 ls (.ref a :: st) σ Q = ax_f (am_fld σ a 11 27) (fun v => ax k_M_spread 75 ls (v :: st) σ Q) := ru_getf f_M_spread_72 rfl
theorem f_M_spread_75 : am_cd k_M_spread 75 = some (none, .iload 4, (0, 0, 0, 0, 0, .null)) := rfl
theorem s_M_spread_75 {a0 a1 a2 a3 : Option Value} {st : List Value} {σ : am_H} {Q : Option Value → am_H → Prop} {x : Int32} : ax k_M_spread 75 [a0, a1, a2, a3, some (.int x)] st σ Q = ax k_M_spread 77 [a0, a1, a2, a3, some (.int x)] (.int x :: st) σ Q := ru_loc (q := (_, _)) f_M_spread_75 rfl rfl rfl
theorem f_M_spread_77 : am_cd k_M_spread 77 = some (none, .baload, (0, 0, 0, 0, 0, .null)) := rfl
theorem s_M_spread_77 {ls : am_L} {st : List Value} {σ : am_H} {Q : Option Value → am_H → Prop} {a : Nat} {j : Int32} : ax k_M_spread 77 ls (.int j :: .ref a :: st) σ Q = ax_f (am_j σ a) (fun q => (q.1 = 1 ∨ q.1 = 2) ∧ am_ix j q.2.1 ∧ ax k_M_spread 78 ls (.int (q.2.2 j.toNatClampNeg) :: st) σ Q) := rv_bald f_M_spread_77 rfl
theorem f_M_spread_78 : am_cd k_M_spread 78 = some (none, .ifCond .eq 29, (107, 0, 0, 0, 0, .null)) := rfl
theorem s_M_spread_78 {ls : am_L} {st : List Value} {σ : am_H} {Q : Option Value → am_H → Prop} {x : Int32} : ax k_M_spread 78 ls (.int x :: st) σ Q = (if x = 0 then ax k_M_spread 107 ls st σ Q else ax k_M_spread 81 ls st σ Q) := (ru_if f_M_spread_78 rfl).trans (ru_i_eq _ _ _ _)
theorem f_M_spread_81 : am_cd k_M_spread 81 = some (none, .aload_n 0, (0, 0, 0, 0, 0, .null)) := rfl
theorem s_M_spread_81 {a1 a2 a3 a4 : Option Value} {st : List Value} {σ : am_H} {Q : Option Value → am_H → Prop} {x : Nat} : ax k_M_spread 81 [some (.ref x), a1, a2, a3, a4] st σ Q = ax k_M_spread 82 [some (.ref x), a1, a2, a3, a4] (.ref x :: st) σ Q := ru_loc (q := (_, _)) f_M_spread_81 rfl rfl rfl
theorem f_M_spread_82 : am_cd k_M_spread 82 = some (none, .iload_n 3, (0, 0, 0, 0, 0, .null)) := rfl
theorem s_M_spread_82 {a0 a1 a2 a4 : Option Value} {st : List Value} {σ : am_H} {Q : Option Value → am_H → Prop} {x : Int32} : ax k_M_spread 82 [a0, a1, a2, some (.int x), a4] st σ Q = ax k_M_spread 83 [a0, a1, a2, some (.int x), a4] (.int x :: st) σ Q := ru_loc (q := (_, _)) f_M_spread_82 rfl rfl rfl
theorem f_M_spread_83 : am_cd k_M_spread 83 = some (none, .iload 4, (0, 0, 0, 0, 0, .null)) := rfl
theorem s_M_spread_83 {a0 a1 a2 a3 : Option Value} {st : List Value} {σ : am_H} {Q : Option Value → am_H → Prop} {x : Int32} : ax k_M_spread 83 [a0, a1, a2, a3, some (.int x)] st σ Q = ax k_M_spread 85 [a0, a1, a2, a3, some (.int x)] (.int x :: st) σ Q := ru_loc (q := (_, _)) f_M_spread_83 rfl rfl rfl
theorem f_M_spread_85 : am_cd k_M_spread 85 = some (none, .invokevirtual 208, (132, 2, 1187, 0, 11, .null)) := rfl
theorem s_M_spread_85 {ls : am_L} {st : List Value} {σ : am_H} {Q : Option Value → am_H → Prop} {p0 : Int32} {p1 : Int32} {b : Nat} (hi : am_is σ b 11) (h8 : am_s8 st) : ax k_M_spread 85 ls (.int p1 :: .int p0 :: .ref b :: st) σ Q = ax k_M_farOf 0 [some (.ref b), some (.int p0), some (.int p1), none, none, none] [] σ (ax_k k_M_spread 88 ls st Q) := ru_vir (M' := rk_M_farOf) f_M_spread_85 rfl rfl rfl rfl hi h8 rfl rfl rfl rfl rfl
theorem f_M_spread_88 : am_cd k_M_spread 88 = some (none, .aload_n 0, (0, 0, 0, 0, 0, .null)) := rfl
theorem s_M_spread_88 {a1 a2 a3 a4 : Option Value} {st : List Value} {σ : am_H} {Q : Option Value → am_H → Prop} {x : Nat} : ax k_M_spread 88 [some (.ref x), a1, a2, a3, a4] st σ Q = ax k_M_spread 89 [some (.ref x), a1, a2, a3, a4] (.ref x :: st) σ Q := ru_loc (q := (_, _)) f_M_spread_88 rfl rfl rfl
theorem f_M_spread_89 : am_cd k_M_spread 89 = some (none, .getfield 47, (11, 18, 935, 0, 0, .null)) := rfl
theorem s_M_spread_89 {ls : am_L} {st : List Value} {σ : am_H} {Q : Option Value → am_H → Prop} {a : Nat} : ax k_M_spread 89 ls (.ref a :: st) σ Q = ax_f (am_fld σ a 11 18) (fun v => ax k_M_spread 92 ls (v :: st) σ Q) := ru_getf f_M_spread_89 rfl
theorem f_M_spread_92 : am_cd k_M_spread 92 = some (none, .if_icmp .le 6, (98, 0, 0, 0, 0, .null)) := rfl
theorem s_M_spread_92 {ls : am_L} {st : List Value} {σ : am_H} {Q : Option Value → am_H → Prop} {x y : Int32} : ax k_M_spread 92 ls (.int y :: .int x :: st) σ Q = (if y < x then ax k_M_spread 95 ls st σ Q else ax k_M_spread 98 ls st σ Q) := (ru_icmp f_M_spread_92 rfl).trans (ru_i_le _ _ _ _)
theorem f_M_spread_95 : am_cd k_M_spread 95 = some (none, .goto 12, (107, 0, 0, 0, 0, .null)) := rfl
theorem s_M_spread_95 {ls : am_L} {st : List Value} {σ : am_H} {Q : Option Value → am_H → Prop} : ax k_M_spread 95 ls st σ Q = ax k_M_spread 107 ls st σ Q := ru_goto f_M_spread_95
theorem f_M_spread_98 : am_cd k_M_spread 98 = some (none, .aload_n 0, (0, 0, 0, 0, 0, .null)) := rfl
theorem s_M_spread_98 {a1 a2 a3 a4 : Option Value} {st : List Value} {σ : am_H} {Q : Option Value → am_H → Prop} {x : Nat} : ax k_M_spread 98 [some (.ref x), a1, a2, a3, a4] st σ Q = ax k_M_spread 99 [some (.ref x), a1, a2, a3, a4] (.ref x :: st) σ Q := ru_loc (q := (_, _)) f_M_spread_98 rfl rfl rfl
theorem f_M_spread_99 : am_cd k_M_spread 99 = some (none, .getfield 69, (11, 27, 944, 0, 3, .null)) := rfl
theorem s_M_spread_99 {ls : am_L} {st : List Value} {σ : am_H} {Q : Option Value → am_H → Prop} {a : Nat} : ax k_M_spread 99 ls (.ref a :: st) σ Q = ax_f (am_fld σ a 11 27) (fun v => ax k_M_spread 102 ls (v :: st) σ Q) := ru_getf f_M_spread_99 rfl
theorem f_M_spread_102 : am_cd k_M_spread 102 = some (none, .iload_n 3, (0, 0, 0, 0, 0, .null)) := rfl
theorem s_M_spread_102 {a0 a1 a2 a4 : Option Value} {st : List Value} {σ : am_H} {Q : Option Value → am_H → Prop} {x : Int32} : ax k_M_spread 102 [a0, a1, a2, some (.int x), a4] st σ Q = ax k_M_spread 103 [a0, a1, a2, some (.int x), a4] (.int x :: st) σ Q := ru_loc (q := (_, _)) f_M_spread_102 rfl rfl rfl
theorem f_M_spread_103 : am_cd k_M_spread 103 = some (none, .iconst 1, (0, 0, 0, 0, 0, .null)) := rfl
theorem s_M_spread_103 {ls : am_L} {st : List Value} {σ : am_H} {Q : Option Value → am_H → Prop} : ax k_M_spread 103 ls st σ Q = ax k_M_spread 104 ls (.int 1 :: st) σ Q := ru_iconst f_M_spread_103 (by decide +kernel) rfl
theorem f_M_spread_104 : am_cd k_M_spread 104 = some (none, .bastore, (0, 0, 0, 0, 0, .null)) := rfl
theorem s_M_spread_104 {ls : am_L} {st : List Value} {σ : am_H} {Q : Option Value → am_H → Prop} {a : Nat} {j x : Int32} : ax k_M_spread 104 ls (.int x :: .int j :: .ref a :: st) σ Q = ax_f (am_j σ a) (fun q => q.1 = 1 ∧ am_ix j q.2.1 ∧ a < am_top ∧ (x = 0 ∨ x = 1) ∧ ax k_M_spread 105 ls st (am_set σ a (am_ia 1 q.2.1 (upd q.2.2 j.toNatClampNeg x))) Q) := rv_zast f_M_spread_104 rfl
theorem f_M_spread_105 : am_cd k_M_spread 105 = some (none, .iconst 1, (0, 0, 0, 0, 0, .null)) := rfl
theorem s_M_spread_105 {ls : am_L} {st : List Value} {σ : am_H} {Q : Option Value → am_H → Prop} : ax k_M_spread 105 ls st σ Q = ax k_M_spread 106 ls (.int 1 :: st) σ Q := ru_iconst f_M_spread_105 (by decide +kernel) rfl
theorem f_M_spread_106 : am_cd k_M_spread 106 = some (none, .istore_n 2, (0, 0, 0, 0, 0, .null)) := rfl
theorem s_M_spread_106 {a0 a1 a2 a3 a4 : Option Value} {st : List Value} {σ : am_H} {Q : Option Value → am_H → Prop} {x : Int32} (hc : am_c2 a1 = false) : ax k_M_spread 106 [a0, a1, a2, a3, a4] (.int x :: st) σ Q = ax k_M_spread 107 [a0, a1, some (.int x), a3, a4] st σ Q := ru_istore_n f_M_spread_106 (Nat.le_of_ble_eq_true rfl) (ru_st1 (Nat.le_of_ble_eq_true rfl) (am_clr_c2 hc rfl) rfl) rfl
theorem f_M_spread_107 : am_cd k_M_spread 107 = some (none, .iinc 4 1, (0, 0, 0, 0, 0, .null)) := rfl
theorem s_M_spread_107 {a0 a1 a2 a3 : Option Value} {st : List Value} {σ : am_H} {Q : Option Value → am_H → Prop} {x : Int32} (hc : am_c2 a3 = false) : ax k_M_spread 107 [a0, a1, a2, a3, some (.int x)] st σ Q = ax k_M_spread 110 [a0, a1, a2, a3, some (.int (x + 1))] st σ Q := ru_iinc f_M_spread_107 rfl (Nat.le_of_ble_eq_true rfl) (by decide +kernel) (ru_st1 (Nat.le_of_ble_eq_true rfl) (am_clr_c2 hc rfl) rfl) rfl
theorem f_M_spread_110 : am_cd k_M_spread 110 = some (none, .goto (-57), (53, 0, 0, 0, 0, .null)) := rfl
theorem s_M_spread_110 {ls : am_L} {st : List Value} {σ : am_H} {Q : Option Value → am_H → Prop} : ax k_M_spread 110 ls st σ Q = ax k_M_spread 53 ls st σ Q := ru_goto f_M_spread_110
theorem f_M_spread_113 : am_cd k_M_spread 113 = some (none, .iinc 3 1, (0, 0, 0, 0, 0, .null)) := rfl
theorem s_M_spread_113 {a0 a1 a2 a4 : Option Value} {st : List Value} {σ : am_H} {Q : Option Value → am_H → Prop} {x : Int32} (hc : am_c2 a2 = false) : ax k_M_spread 113 [a0, a1, a2, some (.int x), a4] st σ Q = ax k_M_spread 116 [a0, a1, a2, some (.int (x + 1)), a4] st σ Q := ru_iinc f_M_spread_113 rfl (Nat.le_of_ble_eq_true rfl) (by decide +kernel) (ru_st1 (Nat.le_of_ble_eq_true rfl) (am_clr_c2 hc rfl) rfl) rfl
theorem f_M_spread_116 : am_cd k_M_spread 116 = some (none, .goto (-74), (42, 0, 0, 0, 0, .null)) := rfl
theorem s_M_spread_116 {ls : am_L} {st : List Value} {σ : am_H} {Q : Option Value → am_H → Prop} : ax k_M_spread 116 ls st σ Q = ax k_M_spread 42 ls st σ Q := ru_goto f_M_spread_116
theorem f_M_spread_119 : am_cd k_M_spread 119 = some (none, .goto (-85), (34, 0, 0, 0, 0, .null)) := rfl
theorem s_M_spread_119 {ls : am_L} {st : List Value} {σ : am_H} {Q : Option Value → am_H → Prop} : ax k_M_spread 119 ls st σ Q = ax k_M_spread 34 ls st σ Q := ru_goto f_M_spread_119
theorem f_M_spread_122 : am_cd k_M_spread 122 = some (none, .return_, (0, 0, 0, 0, 0, .null)) := rfl
theorem s_M_spread_122 {ls : am_L} {σ : am_H} {Q : Option Value → am_H → Prop} : ax k_M_spread 122 ls ([]) σ Q = Q none σ := ru_ret f_M_spread_122 rfl rfl rfl rfl rfl rfl rfl
theorem f_M_firstOf_0 : am_cd k_M_firstOf 0 = some ((some .int), .aload_n 0, (0, 0, 0, 0, 0, .null)) := rfl
theorem s_M_firstOf_0 {a1 a2 a3 : Option Value} {st : List Value} {σ : am_H} {Q : Option Value → am_H → Prop} {x : Nat} : ax k_M_firstOf 0 [some (.ref x), a1, a2, a3] st σ Q = ax k_M_firstOf 1 [some (.ref x), a1, a2, a3] (.ref x :: st) σ Q := ru_loc (q := (_, _)) f_M_firstOf_0 rfl rfl rfl
theorem f_M_firstOf_1 : am_cd k_M_firstOf 1 = some ((some .int), .iload_n 1, (0, 0, 0, 0, 0, .null)) := rfl
theorem s_M_firstOf_1 {a0 a2 a3 : Option Value} {st : List Value} {σ : am_H} {Q : Option Value → am_H → Prop} {x : Int32} : ax k_M_firstOf 1 [a0, some (.int x), a2, a3] st σ Q = ax k_M_firstOf 2 [a0, some (.int x), a2, a3] (.int x :: st) σ Q := ru_loc (q := (_, _)) f_M_firstOf_1 rfl rfl rfl
theorem f_M_firstOf_2 : am_cd k_M_firstOf 2 = some ((some .int), .invokevirtual 211, (135, 1, 1203, 0, 11, .null)) := rfl
theorem s_M_firstOf_2 {ls : am_L} {st : List Value} {σ : am_H} {Q : Option Value → am_H → Prop} {p0 : Int32} {b : Nat} (hi : am_is σ b 11) (h8 : am_s8 st) : ax k_M_firstOf 2 ls (.int p0 :: .ref b :: st) σ Q = ax k_M_spread 0 [some (.ref b), some (.int p0), none, none, none] [] σ (ax_k k_M_firstOf 5 ls st Q) := ru_vir (M' := rk_M_spread) f_M_firstOf_2 rfl rfl rfl rfl hi h8 rfl rfl rfl rfl rfl
theorem f_M_firstOf_5 : am_cd k_M_firstOf 5 = some ((some .int), .iconst (-1), (0, 0, 0, 0, 0, .null)) := rfl
theorem s_M_firstOf_5 {ls : am_L} {st : List Value} {σ : am_H} {Q : Option Value → am_H → Prop} : ax k_M_firstOf 5 ls st σ Q = ax k_M_firstOf 6 ls (.int (-1) :: st) σ Q := ru_iconst f_M_firstOf_5 (by decide +kernel) rfl
theorem f_M_firstOf_6 : am_cd k_M_firstOf 6 = some ((some .int), .istore_n 2, (0, 0, 0, 0, 0, .null)) := rfl
theorem s_M_firstOf_6 {a0 a1 a2 a3 : Option Value} {st : List Value} {σ : am_H} {Q : Option Value → am_H → Prop} {x : Int32} (hc : am_c2 a1 = false) : ax k_M_firstOf 6 [a0, a1, a2, a3] (.int x :: st) σ Q = ax k_M_firstOf 7 [a0, a1, some (.int x), a3] st σ Q := ru_istore_n f_M_firstOf_6 (Nat.le_of_ble_eq_true rfl) (ru_st1 (Nat.le_of_ble_eq_true rfl) (am_clr_c2 hc rfl) rfl) rfl
theorem f_M_firstOf_7 : am_cd k_M_firstOf 7 = some ((some .int), .iconst 0, (0, 0, 0, 0, 0, .null)) := rfl
theorem s_M_firstOf_7 {ls : am_L} {st : List Value} {σ : am_H} {Q : Option Value → am_H → Prop} : ax k_M_firstOf 7 ls st σ Q = ax k_M_firstOf 8 ls (.int 0 :: st) σ Q := ru_iconst f_M_firstOf_7 (by decide +kernel) rfl
theorem f_M_firstOf_8 : am_cd k_M_firstOf 8 = some ((some .int), .istore_n 3, (0, 0, 0, 0, 0, .null)) := rfl
theorem s_M_firstOf_8 {a0 a1 a2 a3 : Option Value} {st : List Value} {σ : am_H} {Q : Option Value → am_H → Prop} {x : Int32} (hc : am_c2 a2 = false) : ax k_M_firstOf 8 [a0, a1, a2, a3] (.int x :: st) σ Q = ax k_M_firstOf 9 [a0, a1, a2, some (.int x)] st σ Q := ru_istore_n f_M_firstOf_8 (Nat.le_of_ble_eq_true rfl) (ru_st1 (Nat.le_of_ble_eq_true rfl) (am_clr_c2 hc rfl) rfl) rfl
theorem f_M_firstOf_9 : am_cd k_M_firstOf 9 = some ((some .int), .iload_n 3, (0, 0, 0, 0, 0, .null)) := rfl
theorem s_M_firstOf_9 {a0 a1 a2 : Option Value} {st : List Value} {σ : am_H} {Q : Option Value → am_H → Prop} {x : Int32} : ax k_M_firstOf 9 [a0, a1, a2, some (.int x)] st σ Q = ax k_M_firstOf 10 [a0, a1, a2, some (.int x)] (.int x :: st) σ Q := ru_loc (q := (_, _)) f_M_firstOf_9 rfl rfl rfl
theorem f_M_firstOf_10 : am_cd k_M_firstOf 10 = some ((some .int), .aload_n 0, (0, 0, 0, 0, 0, .null)) := rfl
theorem s_M_firstOf_10 {a1 a2 a3 : Option Value} {st : List Value} {σ : am_H} {Q : Option Value → am_H → Prop} {x : Nat} : ax k_M_firstOf 10 [some (.ref x), a1, a2, a3] st σ Q = ax k_M_firstOf 11 [some (.ref x), a1, a2, a3] (.ref x :: st) σ Q := ru_loc (q := (_, _)) f_M_firstOf_10 rfl rfl rfl
theorem f_M_firstOf_11 : am_cd k_M_firstOf 11 = some ((some .int), .getfield 158, (11, 7, 924, 0, 0, .null)) := rfl
theorem s_M_firstOf_11 {ls : am_L} {st : List Value} {σ : am_H} {Q : Option Value → am_H → Prop} {a : Nat} : ax k_M_firstOf 11 ls (.ref a :: st) σ Q = ax_f (am_fld σ a 11 7) (fun v => ax k_M_firstOf 14 ls (v :: st) σ Q) := ru_getf f_M_firstOf_11 rfl
theorem f_M_firstOf_14 : am_cd k_M_firstOf 14 = some ((some .int), .if_icmp .ge 39, (53, 0, 0, 0, 0, .null)) := rfl
theorem s_M_firstOf_14 {ls : am_L} {st : List Value} {σ : am_H} {Q : Option Value → am_H → Prop} {x y : Int32} : ax k_M_firstOf 14 ls (.int y :: .int x :: st) σ Q = (if x < y then ax k_M_firstOf 17 ls st σ Q else ax k_M_firstOf 53 ls st σ Q) := (ru_icmp f_M_firstOf_14 rfl).trans (ru_i_ge _ _ _ _)
theorem f_M_firstOf_17 : am_cd k_M_firstOf 17 = some ((some .int), .aload_n 0, (0, 0, 0, 0, 0, .null)) := rfl
theorem s_M_firstOf_17 {a1 a2 a3 : Option Value} {st : List Value} {σ : am_H} {Q : Option Value → am_H → Prop} {x : Nat} : ax k_M_firstOf 17 [some (.ref x), a1, a2, a3] st σ Q = ax k_M_firstOf 18 [some (.ref x), a1, a2, a3] (.ref x :: st) σ Q := ru_loc (q := (_, _)) f_M_firstOf_17 rfl rfl rfl
theorem f_M_firstOf_18 : am_cd k_M_firstOf 18 = some ((some .int), .getfield 69, (11, 27, 944, 0, 3, .null)) := rfl
theorem s_M_firstOf_18 {ls : am_L} {st : List Value} {σ : am_H} {Q : Option Value → am_H → Prop} {a : Nat} : ax k_M_firstOf 18 ls (.ref a :: st) σ Q = ax_f (am_fld σ a 11 27) (fun v => ax k_M_firstOf 21 ls (v :: st) σ Q) := ru_getf f_M_firstOf_18 rfl
theorem f_M_firstOf_21 : am_cd k_M_firstOf 21 = some ((some .int), .iload_n 3, (0, 0, 0, 0, 0, .null)) := rfl
theorem s_M_firstOf_21 {a0 a1 a2 : Option Value} {st : List Value} {σ : am_H} {Q : Option Value → am_H → Prop} {x : Int32} : ax k_M_firstOf 21 [a0, a1, a2, some (.int x)] st σ Q = ax k_M_firstOf 22 [a0, a1, a2, some (.int x)] (.int x :: st) σ Q := ru_loc (q := (_, _)) f_M_firstOf_21 rfl rfl rfl
theorem f_M_firstOf_22 : am_cd k_M_firstOf 22 = some ((some .int), .baload, (0, 0, 0, 0, 0, .null)) := rfl
theorem s_M_firstOf_22 {ls : am_L} {st : List Value} {σ : am_H} {Q : Option Value → am_H → Prop} {a : Nat} {j : Int32} : ax k_M_firstOf 22 ls (.int j :: .ref a :: st) σ Q = ax_f (am_j σ a) (fun q => (q.1 = 1 ∨ q.1 = 2) ∧ am_ix j q.2.1 ∧ ax k_M_firstOf 23 ls (.int (q.2.2 j.toNatClampNeg) :: st) σ Q) := rv_bald f_M_firstOf_22 rfl
theorem f_M_firstOf_23 : am_cd k_M_firstOf 23 = some ((some .int), .ifCond .eq 24, (47, 0, 0, 0, 0, .null)) := rfl
theorem s_M_firstOf_23 {ls : am_L} {st : List Value} {σ : am_H} {Q : Option Value → am_H → Prop} {x : Int32} : ax k_M_firstOf 23 ls (.int x :: st) σ Q = (if x = 0 then ax k_M_firstOf 47 ls st σ Q else ax k_M_firstOf 26 ls st σ Q) := (ru_if f_M_firstOf_23 rfl).trans (ru_i_eq _ _ _ _)
theorem f_M_firstOf_26 : am_cd k_M_firstOf 26 = some ((some .int), .iload_n 2, (0, 0, 0, 0, 0, .null)) := rfl
theorem s_M_firstOf_26 {a0 a1 a3 : Option Value} {st : List Value} {σ : am_H} {Q : Option Value → am_H → Prop} {x : Int32} : ax k_M_firstOf 26 [a0, a1, some (.int x), a3] st σ Q = ax k_M_firstOf 27 [a0, a1, some (.int x), a3] (.int x :: st) σ Q := ru_loc (q := (_, _)) f_M_firstOf_26 rfl rfl rfl
theorem f_M_firstOf_27 : am_cd k_M_firstOf 27 = some ((some .int), .ifCond .lt 18, (45, 0, 0, 0, 0, .null)) := rfl
theorem s_M_firstOf_27 {ls : am_L} {st : List Value} {σ : am_H} {Q : Option Value → am_H → Prop} {x : Int32} : ax k_M_firstOf 27 ls (.int x :: st) σ Q = (if x < 0 then ax k_M_firstOf 45 ls st σ Q else ax k_M_firstOf 30 ls st σ Q) := (ru_if f_M_firstOf_27 rfl).trans (ru_i_lt _ _ _ _)
theorem f_M_firstOf_30 : am_cd k_M_firstOf 30 = some ((some .int), .aload_n 0, (0, 0, 0, 0, 0, .null)) := rfl
theorem s_M_firstOf_30 {a1 a2 a3 : Option Value} {st : List Value} {σ : am_H} {Q : Option Value → am_H → Prop} {x : Nat} : ax k_M_firstOf 30 [some (.ref x), a1, a2, a3] st σ Q = ax k_M_firstOf 31 [some (.ref x), a1, a2, a3] (.ref x :: st) σ Q := ru_loc (q := (_, _)) f_M_firstOf_30 rfl rfl rfl
theorem f_M_firstOf_31 : am_cd k_M_firstOf 31 = some ((some .int), .getfield 22, (11, 9, 926, 0, 3, .null)) := rfl
theorem s_M_firstOf_31 {ls : am_L} {st : List Value} {σ : am_H} {Q : Option Value → am_H → Prop} {a : Nat} : ax k_M_firstOf 31 ls (.ref a :: st) σ Q = ax_f (am_fld σ a 11 9) (fun v => ax k_M_firstOf 34 ls (v :: st) σ Q) := ru_getf f_M_firstOf_31 rfl
theorem f_M_firstOf_34 : am_cd k_M_firstOf 34 = some ((some .int), .iload_n 3, (0, 0, 0, 0, 0, .null)) := rfl
theorem s_M_firstOf_34 {a0 a1 a2 : Option Value} {st : List Value} {σ : am_H} {Q : Option Value → am_H → Prop} {x : Int32} : ax k_M_firstOf 34 [a0, a1, a2, some (.int x)] st σ Q = ax k_M_firstOf 35 [a0, a1, a2, some (.int x)] (.int x :: st) σ Q := ru_loc (q := (_, _)) f_M_firstOf_34 rfl rfl rfl
theorem f_M_firstOf_35 : am_cd k_M_firstOf 35 = some ((some .int), .iaload, (0, 0, 0, 0, 0, .null)) := rfl
theorem s_M_firstOf_35 {ls : am_L} {st : List Value} {σ : am_H} {Q : Option Value → am_H → Prop} {a : Nat} {j : Int32} : ax k_M_firstOf 35 ls (.int j :: .ref a :: st) σ Q = ax_f (am_j σ a) (fun q => q.1 = 0 ∧ am_ix j q.2.1 ∧ ax k_M_firstOf 36 ls (.int (q.2.2 j.toNatClampNeg) :: st) σ Q) := rv_iald f_M_firstOf_35 rfl
theorem f_M_firstOf_36 : am_cd k_M_firstOf 36 = some ((some .int), .aload_n 0, (0, 0, 0, 0, 0, .null)) := rfl
theorem s_M_firstOf_36 {a1 a2 a3 : Option Value} {st : List Value} {σ : am_H} {Q : Option Value → am_H → Prop} {x : Nat} : ax k_M_firstOf 36 [some (.ref x), a1, a2, a3] st σ Q = ax k_M_firstOf 37 [some (.ref x), a1, a2, a3] (.ref x :: st) σ Q := ru_loc (q := (_, _)) f_M_firstOf_36 rfl rfl rfl
theorem f_M_firstOf_37 : am_cd k_M_firstOf 37 = some ((some .int), .getfield 22, (11, 9, 926, 0, 3, .null)) := rfl
theorem s_M_firstOf_37 {ls : am_L} {st : List Value} {σ : am_H} {Q : Option Value → am_H → Prop} {a : Nat} : ax k_M_firstOf 37 ls (.ref a :: st) σ Q = ax_f (am_fld σ a 11 9) (fun v => ax k_M_firstOf 40 ls (v :: st) σ Q) := ru_getf f_M_firstOf_37 rfl
theorem f_M_firstOf_40 : am_cd k_M_firstOf 40 = some ((some .int), .iload_n 2, (0, 0, 0, 0, 0, .null)) := rfl
theorem s_M_firstOf_40 {a0 a1 a3 : Option Value} {st : List Value} {σ : am_H} {Q : Option Value → am_H → Prop} {x : Int32} : ax k_M_firstOf 40 [a0, a1, some (.int x), a3] st σ Q = ax k_M_firstOf 41 [a0, a1, some (.int x), a3] (.int x :: st) σ Q := ru_loc (q := (_, _)) f_M_firstOf_40 rfl rfl rfl
theorem f_M_firstOf_41 : am_cd k_M_firstOf 41 = some ((some .int), .iaload, (0, 0, 0, 0, 0, .null)) := rfl
theorem s_M_firstOf_41 {ls : am_L} {st : List Value} {σ : am_H} {Q : Option Value → am_H → Prop} {a : Nat} {j : Int32} : ax k_M_firstOf 41 ls (.int j :: .ref a :: st) σ Q = ax_f (am_j σ a) (fun q => q.1 = 0 ∧ am_ix j q.2.1 ∧ ax k_M_firstOf 42 ls (.int (q.2.2 j.toNatClampNeg) :: st) σ Q) := rv_iald f_M_firstOf_41 rfl
theorem f_M_firstOf_42 : am_cd k_M_firstOf 42 = some ((some .int), .if_icmp .ge 5, (47, 0, 0, 0, 0, .null)) := rfl
theorem s_M_firstOf_42 {ls : am_L} {st : List Value} {σ : am_H} {Q : Option Value → am_H → Prop} {x y : Int32} : ax k_M_firstOf 42 ls (.int y :: .int x :: st) σ Q = (if x < y then ax k_M_firstOf 45 ls st σ Q else ax k_M_firstOf 47 ls st σ Q) := (ru_icmp f_M_firstOf_42 rfl).trans (ru_i_ge _ _ _ _)
theorem f_M_firstOf_45 : am_cd k_M_firstOf 45 = some ((some .int), .iload_n 3, (0, 0, 0, 0, 0, .null)) := rfl
theorem s_M_firstOf_45 {a0 a1 a2 : Option Value} {st : List Value} {σ : am_H} {Q : Option Value → am_H → Prop} {x : Int32} : ax k_M_firstOf 45 [a0, a1, a2, some (.int x)] st σ Q = ax k_M_firstOf 46 [a0, a1, a2, some (.int x)] (.int x :: st) σ Q := ru_loc (q := (_, _)) f_M_firstOf_45 rfl rfl rfl
theorem f_M_firstOf_46 : am_cd k_M_firstOf 46 = some ((some .int), .istore_n 2, (0, 0, 0, 0, 0, .null)) := rfl
theorem s_M_firstOf_46 {a0 a1 a2 a3 : Option Value} {st : List Value} {σ : am_H} {Q : Option Value → am_H → Prop} {x : Int32} (hc : am_c2 a1 = false) : ax k_M_firstOf 46 [a0, a1, a2, a3] (.int x :: st) σ Q = ax k_M_firstOf 47 [a0, a1, some (.int x), a3] st σ Q := ru_istore_n f_M_firstOf_46 (Nat.le_of_ble_eq_true rfl) (ru_st1 (Nat.le_of_ble_eq_true rfl) (am_clr_c2 hc rfl) rfl) rfl
theorem f_M_firstOf_47 : am_cd k_M_firstOf 47 = some ((some .int), .iinc 3 1, (0, 0, 0, 0, 0, .null)) := rfl
theorem s_M_firstOf_47 {a0 a1 a2 : Option Value} {st : List Value} {σ : am_H} {Q : Option Value → am_H → Prop} {x : Int32} (hc : am_c2 a2 = false) : ax k_M_firstOf 47 [a0, a1, a2, some (.int x)] st σ Q = ax k_M_firstOf 50 [a0, a1, a2, some (.int (x + 1))] st σ Q := ru_iinc f_M_firstOf_47 rfl (Nat.le_of_ble_eq_true rfl) (by decide +kernel) (ru_st1 (Nat.le_of_ble_eq_true rfl) (am_clr_c2 hc rfl) rfl) rfl
theorem f_M_firstOf_50 : am_cd k_M_firstOf 50 = some ((some .int), .goto (-41), (9, 0, 0, 0, 0, .null)) := rfl
theorem s_M_firstOf_50 {ls : am_L} {st : List Value} {σ : am_H} {Q : Option Value → am_H → Prop} : ax k_M_firstOf 50 ls st σ Q = ax k_M_firstOf 9 ls st σ Q := ru_goto f_M_firstOf_50
theorem f_M_firstOf_53 : am_cd k_M_firstOf 53 = some ((some .int), .iload_n 2, (0, 0, 0, 0, 0, .null)) := rfl
theorem s_M_firstOf_53 {a0 a1 a3 : Option Value} {st : List Value} {σ : am_H} {Q : Option Value → am_H → Prop} {x : Int32} : ax k_M_firstOf 53 [a0, a1, some (.int x), a3] st σ Q = ax k_M_firstOf 54 [a0, a1, some (.int x), a3] (.int x :: st) σ Q := ru_loc (q := (_, _)) f_M_firstOf_53 rfl rfl rfl
theorem f_M_firstOf_54 : am_cd k_M_firstOf 54 = some ((some .int), .ireturn, (0, 0, 0, 0, 0, .null)) := rfl
theorem s_M_firstOf_54 {ls : am_L} {σ : am_H} {Q : Option Value → am_H → Prop} {v : Int32} : ax k_M_firstOf 54 ls [.int v] σ Q = Q (some (.int v)) σ := ru_iretI f_M_firstOf_54
theorem f_M_set_0 : am_cd k_M_set 0 = some ((some .int), .aload_n 0, (0, 0, 0, 0, 0, .null)) := rfl
theorem s_M_set_0 {a1 a2 a3 a4 a5 : Option Value} {st : List Value} {σ : am_H} {Q : Option Value → am_H → Prop} {x : Nat} : ax k_M_set 0 [some (.ref x), a1, a2, a3, a4, a5] st σ Q = ax k_M_set 1 [some (.ref x), a1, a2, a3, a4, a5] (.ref x :: st) σ Q := ru_loc (q := (_, _)) f_M_set_0 rfl rfl rfl
theorem f_M_set_1 : am_cd k_M_set 1 = some ((some .int), .iload_n 1, (0, 0, 0, 0, 0, .null)) := rfl
theorem s_M_set_1 {a0 a2 a3 a4 a5 : Option Value} {st : List Value} {σ : am_H} {Q : Option Value → am_H → Prop} {x : Int32} : ax k_M_set 1 [a0, some (.int x), a2, a3, a4, a5] st σ Q = ax k_M_set 2 [a0, some (.int x), a2, a3, a4, a5] (.int x :: st) σ Q := ru_loc (q := (_, _)) f_M_set_1 rfl rfl rfl
theorem f_M_set_2 : am_cd k_M_set 2 = some ((some .int), .invokevirtual 195, (115, 1, 1155, 0, 11, .null)) := rfl
theorem s_M_set_2 {ls : am_L} {st : List Value} {σ : am_H} {Q : Option Value → am_H → Prop} {p0 : Int32} {b : Nat} (hi : am_is σ b 11) (h8 : am_s8 st) : ax k_M_set 2 ls (.int p0 :: .ref b :: st) σ Q = ax k_M_isPicture 0 [some (.ref b), some (.int p0)] [] σ (ax_k k_M_set 5 ls st Q) := ru_vir (M' := rk_M_isPicture) f_M_set_2 rfl rfl rfl rfl hi h8 rfl rfl rfl rfl rfl
theorem f_M_set_5 : am_cd k_M_set 5 = some ((some .int), .ifCond .eq 12, (17, 0, 0, 0, 0, .null)) := rfl
theorem s_M_set_5 {ls : am_L} {st : List Value} {σ : am_H} {Q : Option Value → am_H → Prop} {x : Int32} : ax k_M_set 5 ls (.int x :: st) σ Q = (if x = 0 then ax k_M_set 17 ls st σ Q else ax k_M_set 8 ls st σ Q) := (ru_if f_M_set_5 rfl).trans (ru_i_eq _ _ _ _)
theorem f_M_set_8 : am_cd k_M_set 8 = some ((some .int), .iload_n 2, (0, 0, 0, 0, 0, .null)) := rfl
theorem s_M_set_8 {a0 a1 a3 a4 a5 : Option Value} {st : List Value} {σ : am_H} {Q : Option Value → am_H → Prop} {x : Int32} : ax k_M_set 8 [a0, a1, some (.int x), a3, a4, a5] st σ Q = ax k_M_set 9 [a0, a1, some (.int x), a3, a4, a5] (.int x :: st) σ Q := ru_loc (q := (_, _)) f_M_set_8 rfl rfl rfl
theorem f_M_set_9 : am_cd k_M_set 9 = some ((some .int), .iconst 0, (0, 0, 0, 0, 0, .null)) := rfl
theorem s_M_set_9 {ls : am_L} {st : List Value} {σ : am_H} {Q : Option Value → am_H → Prop} : ax k_M_set 9 ls st σ Q = ax k_M_set 10 ls (.int 0 :: st) σ Q := ru_iconst f_M_set_9 (by decide +kernel) rfl
theorem f_M_set_10 : am_cd k_M_set 10 = some ((some .int), .iconst 1, (0, 0, 0, 0, 0, .null)) := rfl
theorem s_M_set_10 {ls : am_L} {st : List Value} {σ : am_H} {Q : Option Value → am_H → Prop} : ax k_M_set 10 ls st σ Q = ax k_M_set 11 ls (.int 1 :: st) σ Q := ru_iconst f_M_set_10 (by decide +kernel) rfl
theorem f_M_set_11 : am_cd k_M_set 11 = some ((some .int), .invokestatic 154, (113, 3, 1110, 0, 11, .null)) := rfl
theorem s_M_set_11 {ls : am_L} {st : List Value} {σ : am_H} {Q : Option Value → am_H → Prop} {p0 : Int32} {p1 : Int32} {p2 : Int32} (h8 : am_s8 st) : ax k_M_set 11 ls (.int p2 :: .int p1 :: .int p0 :: st) σ Q = ax k_M_isIn 0 [some (.int p0), some (.int p1), some (.int p2)] [] σ (ax_k k_M_set 14 ls st Q) := ru_sta (M' := rk_M_isIn) f_M_set_11 rfl (by decide) rfl (by simp) rfl h8 rfl rfl rfl rfl rfl
theorem f_M_set_14 : am_cd k_M_set 14 = some ((some .int), .ifCond .ne 5, (19, 0, 0, 0, 0, .null)) := rfl
theorem s_M_set_14 {ls : am_L} {st : List Value} {σ : am_H} {Q : Option Value → am_H → Prop} {x : Int32} : ax k_M_set 14 ls (.int x :: st) σ Q = (if x = 0 then ax k_M_set 17 ls st σ Q else ax k_M_set 19 ls st σ Q) := (ru_if f_M_set_14 rfl).trans (ru_i_ne _ _ _ _)
theorem f_M_set_17 : am_cd k_M_set 17 = some ((some .int), .iconst (-1), (0, 0, 0, 0, 0, .null)) := rfl
theorem s_M_set_17 {ls : am_L} {st : List Value} {σ : am_H} {Q : Option Value → am_H → Prop} : ax k_M_set 17 ls st σ Q = ax k_M_set 18 ls (.int (-1) :: st) σ Q := ru_iconst f_M_set_17 (by decide +kernel) rfl
theorem f_M_set_18 : am_cd k_M_set 18 = some ((some .int), .ireturn, (0, 0, 0, 0, 0, .null)) := rfl
theorem s_M_set_18 {ls : am_L} {σ : am_H} {Q : Option Value → am_H → Prop} {v : Int32} : ax k_M_set 18 ls [.int v] σ Q = Q (some (.int v)) σ := ru_iretI f_M_set_18
theorem f_M_set_19 : am_cd k_M_set 19 = some ((some .int), .aload_n 0, (0, 0, 0, 0, 0, .null)) := rfl
theorem s_M_set_19 {a1 a2 a3 a4 a5 : Option Value} {st : List Value} {σ : am_H} {Q : Option Value → am_H → Prop} {x : Nat} : ax k_M_set 19 [some (.ref x), a1, a2, a3, a4, a5] st σ Q = ax k_M_set 20 [some (.ref x), a1, a2, a3, a4, a5] (.ref x :: st) σ Q := ru_loc (q := (_, _)) f_M_set_19 rfl rfl rfl
theorem f_M_set_20 : am_cd k_M_set 20 = some ((some .int), .iload_n 1, (0, 0, 0, 0, 0, .null)) := rfl
theorem s_M_set_20 {a0 a2 a3 a4 a5 : Option Value} {st : List Value} {σ : am_H} {Q : Option Value → am_H → Prop} {x : Int32} : ax k_M_set 20 [a0, some (.int x), a2, a3, a4, a5] st σ Q = ax k_M_set 21 [a0, some (.int x), a2, a3, a4, a5] (.int x :: st) σ Q := ru_loc (q := (_, _)) f_M_set_20 rfl rfl rfl
theorem f_M_set_21 : am_cd k_M_set 21 = some ((some .int), .invokevirtual 215, (136, 1, 1199, 0, 11, .null)) := rfl
theorem s_M_set_21 {ls : am_L} {st : List Value} {σ : am_H} {Q : Option Value → am_H → Prop} {p0 : Int32} {b : Nat} (hi : am_is σ b 11) (h8 : am_s8 st) : ax k_M_set 21 ls (.int p0 :: .ref b :: st) σ Q = ax k_M_firstOf 0 [some (.ref b), some (.int p0), none, none] [] σ (ax_k k_M_set 24 ls st Q) := ru_vir (M' := rk_M_firstOf) f_M_set_21 rfl rfl rfl rfl hi h8 rfl rfl rfl rfl rfl
theorem f_M_set_24 : am_cd k_M_set 24 = some ((some .int), .istore_n 3, (0, 0, 0, 0, 0, .null)) := rfl
theorem s_M_set_24 {a0 a1 a2 a3 a4 a5 : Option Value} {st : List Value} {σ : am_H} {Q : Option Value → am_H → Prop} {x : Int32} (hc : am_c2 a2 = false) : ax k_M_set 24 [a0, a1, a2, a3, a4, a5] (.int x :: st) σ Q = ax k_M_set 25 [a0, a1, a2, some (.int x), a4, a5] st σ Q := ru_istore_n f_M_set_24 (Nat.le_of_ble_eq_true rfl) (ru_st1 (Nat.le_of_ble_eq_true rfl) (am_clr_c2 hc rfl) rfl) rfl
theorem f_M_set_25 : am_cd k_M_set 25 = some ((some .int), .iload_n 2, (0, 0, 0, 0, 0, .null)) := rfl
theorem s_M_set_25 {a0 a1 a3 a4 a5 : Option Value} {st : List Value} {σ : am_H} {Q : Option Value → am_H → Prop} {x : Int32} : ax k_M_set 25 [a0, a1, some (.int x), a3, a4, a5] st σ Q = ax k_M_set 26 [a0, a1, some (.int x), a3, a4, a5] (.int x :: st) σ Q := ru_loc (q := (_, _)) f_M_set_25 rfl rfl rfl
theorem f_M_set_26 : am_cd k_M_set 26 = some ((some .int), .ifCond .ne 5, (31, 0, 0, 0, 0, .null)) := rfl
theorem s_M_set_26 {ls : am_L} {st : List Value} {σ : am_H} {Q : Option Value → am_H → Prop} {x : Int32} : ax k_M_set 26 ls (.int x :: st) σ Q = (if x = 0 then ax k_M_set 29 ls st σ Q else ax k_M_set 31 ls st σ Q) := (ru_if f_M_set_26 rfl).trans (ru_i_ne _ _ _ _)
theorem f_M_set_29 : am_cd k_M_set 29 = some ((some .int), .iload_n 3, (0, 0, 0, 0, 0, .null)) := rfl
theorem s_M_set_29 {a0 a1 a2 a4 a5 : Option Value} {st : List Value} {σ : am_H} {Q : Option Value → am_H → Prop} {x : Int32} : ax k_M_set 29 [a0, a1, a2, some (.int x), a4, a5] st σ Q = ax k_M_set 30 [a0, a1, a2, some (.int x), a4, a5] (.int x :: st) σ Q := ru_loc (q := (_, _)) f_M_set_29 rfl rfl rfl
theorem f_M_set_30 : am_cd k_M_set 30 = some ((some .int), .ireturn, (0, 0, 0, 0, 0, .null)) := rfl
theorem s_M_set_30 {ls : am_L} {σ : am_H} {Q : Option Value → am_H → Prop} {v : Int32} : ax k_M_set 30 ls [.int v] σ Q = Q (some (.int v)) σ := ru_iretI f_M_set_30
theorem f_M_set_31 : am_cd k_M_set 31 = some ((some .int), .iconst 0, (0, 0, 0, 0, 0, .null)) := rfl
theorem s_M_set_31 {ls : am_L} {st : List Value} {σ : am_H} {Q : Option Value → am_H → Prop} : ax k_M_set 31 ls st σ Q = ax k_M_set 32 ls (.int 0 :: st) σ Q := ru_iconst f_M_set_31 (by decide +kernel) rfl
theorem f_M_set_32 : am_cd k_M_set 32 = some ((some .int), .istore 4, (0, 0, 0, 0, 0, .null)) := rfl
theorem s_M_set_32 {a0 a1 a2 a3 a4 a5 : Option Value} {st : List Value} {σ : am_H} {Q : Option Value → am_H → Prop} {x : Int32} (hc : am_c2 a3 = false) : ax k_M_set 32 [a0, a1, a2, a3, a4, a5] (.int x :: st) σ Q = ax k_M_set 34 [a0, a1, a2, a3, some (.int x), a5] st σ Q := ru_istore f_M_set_32 (Nat.le_of_ble_eq_true rfl) (ru_st1 (Nat.le_of_ble_eq_true rfl) (am_clr_c2 hc rfl) rfl) rfl
theorem f_M_set_34 : am_cd k_M_set 34 = some ((some .int), .iconst 0, (0, 0, 0, 0, 0, .null)) := rfl
theorem s_M_set_34 {ls : am_L} {st : List Value} {σ : am_H} {Q : Option Value → am_H → Prop} : ax k_M_set 34 ls st σ Q = ax k_M_set 35 ls (.int 0 :: st) σ Q := ru_iconst f_M_set_34 (by decide +kernel) rfl
theorem f_M_set_35 : am_cd k_M_set 35 = some ((some .int), .istore 5, (0, 0, 0, 0, 0, .null)) := rfl
theorem s_M_set_35 {a0 a1 a2 a3 a4 a5 : Option Value} {st : List Value} {σ : am_H} {Q : Option Value → am_H → Prop} {x : Int32} (hc : am_c2 a4 = false) : ax k_M_set 35 [a0, a1, a2, a3, a4, a5] (.int x :: st) σ Q = ax k_M_set 37 [a0, a1, a2, a3, a4, some (.int x)] st σ Q := ru_istore f_M_set_35 (Nat.le_of_ble_eq_true rfl) (ru_st1 (Nat.le_of_ble_eq_true rfl) (am_clr_c2 hc rfl) rfl) rfl
theorem f_M_set_37 : am_cd k_M_set 37 = some ((some .int), .iload 5, (0, 0, 0, 0, 0, .null)) := rfl
theorem s_M_set_37 {a0 a1 a2 a3 a4 : Option Value} {st : List Value} {σ : am_H} {Q : Option Value → am_H → Prop} {x : Int32} : ax k_M_set 37 [a0, a1, a2, a3, a4, some (.int x)] st σ Q = ax k_M_set 39 [a0, a1, a2, a3, a4, some (.int x)] (.int x :: st) σ Q := ru_loc (q := (_, _)) f_M_set_37 rfl rfl rfl
theorem f_M_set_39 : am_cd k_M_set 39 = some ((some .int), .aload_n 0, (0, 0, 0, 0, 0, .null)) := rfl
theorem s_M_set_39 {a1 a2 a3 a4 a5 : Option Value} {st : List Value} {σ : am_H} {Q : Option Value → am_H → Prop} {x : Nat} : ax k_M_set 39 [some (.ref x), a1, a2, a3, a4, a5] st σ Q = ax k_M_set 40 [some (.ref x), a1, a2, a3, a4, a5] (.ref x :: st) σ Q := ru_loc (q := (_, _)) f_M_set_39 rfl rfl rfl
theorem f_M_set_40 : am_cd k_M_set 40 = some ((some .int), .getfield 158, (11, 7, 924, 0, 0, .null)) := rfl
theorem s_M_set_40 {ls : am_L} {st : List Value} {σ : am_H} {Q : Option Value → am_H → Prop} {a : Nat} : ax k_M_set 40 ls (.ref a :: st) σ Q = ax_f (am_fld σ a 11 7) (fun v => ax k_M_set 43 ls (v :: st) σ Q) := ru_getf f_M_set_40 rfl
theorem f_M_set_43 : am_cd k_M_set 43 = some ((some .int), .if_icmp .ge 29, (72, 0, 0, 0, 0, .null)) := rfl
theorem s_M_set_43 {ls : am_L} {st : List Value} {σ : am_H} {Q : Option Value → am_H → Prop} {x y : Int32} : ax k_M_set 43 ls (.int y :: .int x :: st) σ Q = (if x < y then ax k_M_set 46 ls st σ Q else ax k_M_set 72 ls st σ Q) := (ru_icmp f_M_set_43 rfl).trans (ru_i_ge _ _ _ _)
theorem f_M_set_46 : am_cd k_M_set 46 = some ((some .int), .iload 4, (0, 0, 0, 0, 0, .null)) := rfl
theorem s_M_set_46 {a0 a1 a2 a3 a5 : Option Value} {st : List Value} {σ : am_H} {Q : Option Value → am_H → Prop} {x : Int32} : ax k_M_set 46 [a0, a1, a2, a3, some (.int x), a5] st σ Q = ax k_M_set 48 [a0, a1, a2, a3, some (.int x), a5] (.int x :: st) σ Q := ru_loc (q := (_, _)) f_M_set_46 rfl rfl rfl
theorem f_M_set_48 : am_cd k_M_set 48 = some ((some .int), .aload_n 0, (0, 0, 0, 0, 0, .null)) := rfl
theorem s_M_set_48 {a1 a2 a3 a4 a5 : Option Value} {st : List Value} {σ : am_H} {Q : Option Value → am_H → Prop} {x : Nat} : ax k_M_set 48 [some (.ref x), a1, a2, a3, a4, a5] st σ Q = ax k_M_set 49 [some (.ref x), a1, a2, a3, a4, a5] (.ref x :: st) σ Q := ru_loc (q := (_, _)) f_M_set_48 rfl rfl rfl
theorem f_M_set_49 : am_cd k_M_set 49 = some ((some .int), .getfield 69, (11, 27, 944, 0, 3, .null)) := rfl
theorem s_M_set_49 {ls : am_L} {st : List Value} {σ : am_H} {Q : Option Value → am_H → Prop} {a : Nat} : ax k_M_set 49 ls (.ref a :: st) σ Q = ax_f (am_fld σ a 11 27) (fun v => ax k_M_set 52 ls (v :: st) σ Q) := ru_getf f_M_set_49 rfl
theorem f_M_set_52 : am_cd k_M_set 52 = some ((some .int), .iload 5, (0, 0, 0, 0, 0, .null)) := rfl
theorem s_M_set_52 {a0 a1 a2 a3 a4 : Option Value} {st : List Value} {σ : am_H} {Q : Option Value → am_H → Prop} {x : Int32} : ax k_M_set 52 [a0, a1, a2, a3, a4, some (.int x)] st σ Q = ax k_M_set 54 [a0, a1, a2, a3, a4, some (.int x)] (.int x :: st) σ Q := ru_loc (q := (_, _)) f_M_set_52 rfl rfl rfl
theorem f_M_set_54 : am_cd k_M_set 54 = some ((some .int), .baload, (0, 0, 0, 0, 0, .null)) := rfl
theorem s_M_set_54 {ls : am_L} {st : List Value} {σ : am_H} {Q : Option Value → am_H → Prop} {a : Nat} {j : Int32} : ax k_M_set 54 ls (.int j :: .ref a :: st) σ Q = ax_f (am_j σ a) (fun q => (q.1 = 1 ∨ q.1 = 2) ∧ am_ix j q.2.1 ∧ ax k_M_set 55 ls (.int (q.2.2 j.toNatClampNeg) :: st) σ Q) := rv_bald f_M_set_54 rfl
theorem f_M_set_55 : am_cd k_M_set 55 = some ((some .int), .ifCond .eq 7, (62, 0, 0, 0, 0, .null)) := rfl
theorem s_M_set_55 {ls : am_L} {st : List Value} {σ : am_H} {Q : Option Value → am_H → Prop} {x : Int32} : ax k_M_set 55 ls (.int x :: st) σ Q = (if x = 0 then ax k_M_set 62 ls st σ Q else ax k_M_set 58 ls st σ Q) := (ru_if f_M_set_55 rfl).trans (ru_i_eq _ _ _ _)
theorem f_M_set_58 : am_cd k_M_set 58 = some ((some .int), .iconst 1, (0, 0, 0, 0, 0, .null)) := rfl
theorem s_M_set_58 {ls : am_L} {st : List Value} {σ : am_H} {Q : Option Value → am_H → Prop} : ax k_M_set 58 ls st σ Q = ax k_M_set 59 ls (.int 1 :: st) σ Q := ru_iconst f_M_set_58 (by decide +kernel) rfl
theorem f_M_set_59 : am_cd k_M_set 59 = some ((some .int), .goto 4, (63, 0, 0, 0, 0, .null)) := rfl
theorem s_M_set_59 {ls : am_L} {st : List Value} {σ : am_H} {Q : Option Value → am_H → Prop} : ax k_M_set 59 ls st σ Q = ax k_M_set 63 ls st σ Q := ru_goto f_M_set_59
theorem f_M_set_62 : am_cd k_M_set 62 = some ((some .int), .iconst 0, (0, 0, 0, 0, 0, .null)) := rfl
theorem s_M_set_62 {ls : am_L} {st : List Value} {σ : am_H} {Q : Option Value → am_H → Prop} : ax k_M_set 62 ls st σ Q = ax k_M_set 63 ls (.int 0 :: st) σ Q := ru_iconst f_M_set_62 (by decide +kernel) rfl
theorem f_M_set_63 : am_cd k_M_set 63 = some ((some .int), .iadd, (0, 0, 0, 0, 0, .null)) := rfl
theorem s_M_set_63 {ls : am_L} {st : List Value} {σ : am_H} {Q : Option Value → am_H → Prop} {x y : Int32} : ax k_M_set 63 ls (.int y :: .int x :: st) σ Q = ax k_M_set 64 ls (.int (x + y) :: st) σ Q := ru_pure f_M_set_63 rfl rfl
theorem f_M_set_64 : am_cd k_M_set 64 = some ((some .int), .istore 4, (0, 0, 0, 0, 0, .null)) := rfl
theorem s_M_set_64 {a0 a1 a2 a3 a4 a5 : Option Value} {st : List Value} {σ : am_H} {Q : Option Value → am_H → Prop} {x : Int32} (hc : am_c2 a3 = false) : ax k_M_set 64 [a0, a1, a2, a3, a4, a5] (.int x :: st) σ Q = ax k_M_set 66 [a0, a1, a2, a3, some (.int x), a5] st σ Q := ru_istore f_M_set_64 (Nat.le_of_ble_eq_true rfl) (ru_st1 (Nat.le_of_ble_eq_true rfl) (am_clr_c2 hc rfl) rfl) rfl
theorem f_M_set_66 : am_cd k_M_set 66 = some ((some .int), .iinc 5 1, (0, 0, 0, 0, 0, .null)) := rfl
theorem s_M_set_66 {a0 a1 a2 a3 a4 : Option Value} {st : List Value} {σ : am_H} {Q : Option Value → am_H → Prop} {x : Int32} (hc : am_c2 a4 = false) : ax k_M_set 66 [a0, a1, a2, a3, a4, some (.int x)] st σ Q = ax k_M_set 69 [a0, a1, a2, a3, a4, some (.int (x + 1))] st σ Q := ru_iinc f_M_set_66 rfl (Nat.le_of_ble_eq_true rfl) (by decide +kernel) (ru_st1 (Nat.le_of_ble_eq_true rfl) (am_clr_c2 hc rfl) rfl) rfl
theorem f_M_set_69 : am_cd k_M_set 69 = some ((some .int), .goto (-32), (37, 0, 0, 0, 0, .null)) := rfl
theorem s_M_set_69 {ls : am_L} {st : List Value} {σ : am_H} {Q : Option Value → am_H → Prop} : ax k_M_set 69 ls st σ Q = ax k_M_set 37 ls st σ Q := ru_goto f_M_set_69
theorem f_M_set_72 : am_cd k_M_set 72 = some ((some .int), .iload 4, (0, 0, 0, 0, 0, .null)) := rfl
theorem s_M_set_72 {a0 a1 a2 a3 a5 : Option Value} {st : List Value} {σ : am_H} {Q : Option Value → am_H → Prop} {x : Int32} : ax k_M_set 72 [a0, a1, a2, a3, some (.int x), a5] st σ Q = ax k_M_set 74 [a0, a1, a2, a3, some (.int x), a5] (.int x :: st) σ Q := ru_loc (q := (_, _)) f_M_set_72 rfl rfl rfl
theorem f_M_set_74 : am_cd k_M_set 74 = some ((some .int), .ireturn, (0, 0, 0, 0, 0, .null)) := rfl
theorem s_M_set_74 {ls : am_L} {σ : am_H} {Q : Option Value → am_H → Prop} {v : Int32} : ax k_M_set 74 ls [.int v] σ Q = Q (some (.int v)) σ := ru_iretI f_M_set_74
theorem f_M_leave_0 : am_cd k_M_leave 0 = some ((some .boolean), .iload_n 1, (0, 0, 0, 0, 0, .null)) := rfl
theorem s_M_leave_0 {a0 a2 : Option Value} {st : List Value} {σ : am_H} {Q : Option Value → am_H → Prop} {x : Int32} : ax k_M_leave 0 [a0, some (.int x), a2] st σ Q = ax k_M_leave 1 [a0, some (.int x), a2] (.int x :: st) σ Q := ru_loc (q := (_, _)) f_M_leave_0 rfl rfl rfl
theorem f_M_leave_1 : am_cd k_M_leave 1 = some ((some .boolean), .iconst 0, (0, 0, 0, 0, 0, .null)) := rfl
theorem s_M_leave_1 {ls : am_L} {st : List Value} {σ : am_H} {Q : Option Value → am_H → Prop} : ax k_M_leave 1 ls st σ Q = ax k_M_leave 2 ls (.int 0 :: st) σ Q := ru_iconst f_M_leave_1 (by decide +kernel) rfl
theorem f_M_leave_2 : am_cd k_M_leave 2 = some ((some .boolean), .bipush 15, (0, 0, 0, 0, 0, .null)) := rfl
theorem s_M_leave_2 {ls : am_L} {st : List Value} {σ : am_H} {Q : Option Value → am_H → Prop} : ax k_M_leave 2 ls st σ Q = ax k_M_leave 4 ls (.int 15 :: st) σ Q := ru_bipush f_M_leave_2 (by decide +kernel) rfl
theorem f_M_leave_4 : am_cd k_M_leave 4 = some ((some .boolean), .invokestatic 154, (113, 3, 1110, 0, 11, .null)) := rfl
theorem s_M_leave_4 {ls : am_L} {st : List Value} {σ : am_H} {Q : Option Value → am_H → Prop} {p0 : Int32} {p1 : Int32} {p2 : Int32} (h8 : am_s8 st) : ax k_M_leave 4 ls (.int p2 :: .int p1 :: .int p0 :: st) σ Q = ax k_M_isIn 0 [some (.int p0), some (.int p1), some (.int p2)] [] σ (ax_k k_M_leave 7 ls st Q) := ru_sta (M' := rk_M_isIn) f_M_leave_4 rfl (by decide) rfl (by simp) rfl h8 rfl rfl rfl rfl rfl
theorem f_M_leave_7 : am_cd k_M_leave 7 = some ((some .boolean), .ifCond .eq 12, (19, 0, 0, 0, 0, .null)) := rfl
theorem s_M_leave_7 {ls : am_L} {st : List Value} {σ : am_H} {Q : Option Value → am_H → Prop} {x : Int32} : ax k_M_leave 7 ls (.int x :: st) σ Q = (if x = 0 then ax k_M_leave 19 ls st σ Q else ax k_M_leave 10 ls st σ Q) := (ru_if f_M_leave_7 rfl).trans (ru_i_eq _ _ _ _)
theorem f_M_leave_10 : am_cd k_M_leave 10 = some ((some .boolean), .aload_n 0, (0, 0, 0, 0, 0, .null)) := rfl
theorem s_M_leave_10 {a1 a2 : Option Value} {st : List Value} {σ : am_H} {Q : Option Value → am_H → Prop} {x : Nat} : ax k_M_leave 10 [some (.ref x), a1, a2] st σ Q = ax k_M_leave 11 [some (.ref x), a1, a2] (.ref x :: st) σ Q := ru_loc (q := (_, _)) f_M_leave_10 rfl rfl rfl
theorem f_M_leave_11 : am_cd k_M_leave 11 = some ((some .boolean), .getfield 219, (11, 19, 936, 0, 0, .null)) := rfl
theorem s_M_leave_11 {ls : am_L} {st : List Value} {σ : am_H} {Q : Option Value → am_H → Prop} {a : Nat} : ax k_M_leave 11 ls (.ref a :: st) σ Q = ax_f (am_fld σ a 11 19) (fun v => ax k_M_leave 14 ls (v :: st) σ Q) := ru_getf f_M_leave_11 rfl
theorem f_M_leave_14 : am_cd k_M_leave 14 = some ((some .boolean), .bipush 100, (0, 0, 0, 0, 0, .null)) := rfl
theorem s_M_leave_14 {ls : am_L} {st : List Value} {σ : am_H} {Q : Option Value → am_H → Prop} : ax k_M_leave 14 ls st σ Q = ax k_M_leave 16 ls (.int 100 :: st) σ Q := ru_bipush f_M_leave_14 (by decide +kernel) rfl
theorem f_M_leave_16 : am_cd k_M_leave 16 = some ((some .boolean), .if_icmp .ne 5, (21, 0, 0, 0, 0, .null)) := rfl
theorem s_M_leave_16 {ls : am_L} {st : List Value} {σ : am_H} {Q : Option Value → am_H → Prop} {x y : Int32} : ax k_M_leave 16 ls (.int y :: .int x :: st) σ Q = (if x = y then ax k_M_leave 19 ls st σ Q else ax k_M_leave 21 ls st σ Q) := (ru_icmp f_M_leave_16 rfl).trans (ru_i_ne _ _ _ _)
theorem f_M_leave_19 : am_cd k_M_leave 19 = some ((some .boolean), .iconst 0, (0, 0, 0, 0, 0, .null)) := rfl
theorem s_M_leave_19 {ls : am_L} {st : List Value} {σ : am_H} {Q : Option Value → am_H → Prop} : ax k_M_leave 19 ls st σ Q = ax k_M_leave 20 ls (.int 0 :: st) σ Q := ru_iconst f_M_leave_19 (by decide +kernel) rfl
theorem f_M_leave_20 : am_cd k_M_leave 20 = some ((some .boolean), .ireturn, (0, 0, 0, 0, 0, .null)) := rfl
theorem s_M_leave_20 {ls : am_L} {σ : am_H} {Q : Option Value → am_H → Prop} {v : Int32} : ax k_M_leave 20 ls ([.int v]) σ Q = (am_nar .boolean v = true ∧ Q (some (.int v)) σ) := ru_iret f_M_leave_20
theorem f_M_leave_21 : am_cd k_M_leave 21 = some ((some .boolean), .aload_n 0, (0, 0, 0, 0, 0, .null)) := rfl
theorem s_M_leave_21 {a1 a2 : Option Value} {st : List Value} {σ : am_H} {Q : Option Value → am_H → Prop} {x : Nat} : ax k_M_leave 21 [some (.ref x), a1, a2] st σ Q = ax k_M_leave 22 [some (.ref x), a1, a2] (.ref x :: st) σ Q := ru_loc (q := (_, _)) f_M_leave_21 rfl rfl rfl
theorem f_M_leave_22 : am_cd k_M_leave 22 = some ((some .boolean), .getfield 51, (11, 20, 937, 0, 3, .null)) := rfl
theorem s_M_leave_22 {ls : am_L} {st : List Value} {σ : am_H} {Q : Option Value → am_H → Prop} {a : Nat} : ax k_M_leave 22 ls (.ref a :: st) σ Q = ax_f (am_fld σ a 11 20) (fun v => ax k_M_leave 25 ls (v :: st) σ Q) := ru_getf f_M_leave_22 rfl
theorem f_M_leave_25 : am_cd k_M_leave 25 = some ((some .boolean), .aload_n 0, (0, 0, 0, 0, 0, .null)) := rfl
theorem s_M_leave_25 {a1 a2 : Option Value} {st : List Value} {σ : am_H} {Q : Option Value → am_H → Prop} {x : Nat} : ax k_M_leave 25 [some (.ref x), a1, a2] st σ Q = ax k_M_leave 26 [some (.ref x), a1, a2] (.ref x :: st) σ Q := ru_loc (q := (_, _)) f_M_leave_25 rfl rfl rfl
theorem f_M_leave_26 : am_cd k_M_leave 26 = some ((some .boolean), .getfield 219, (11, 19, 936, 0, 0, .null)) := rfl
theorem s_M_leave_26 {ls : am_L} {st : List Value} {σ : am_H} {Q : Option Value → am_H → Prop} {a : Nat} : ax k_M_leave 26 ls (.ref a :: st) σ Q = ax_f (am_fld σ a 11 19) (fun v => ax k_M_leave 29 ls (v :: st) σ Q) := ru_getf f_M_leave_26 rfl
theorem f_M_leave_29 : am_cd k_M_leave 29 = some ((some .boolean), .iload_n 1, (0, 0, 0, 0, 0, .null)) := rfl
theorem s_M_leave_29 {a0 a2 : Option Value} {st : List Value} {σ : am_H} {Q : Option Value → am_H → Prop} {x : Int32} : ax k_M_leave 29 [a0, some (.int x), a2] st σ Q = ax k_M_leave 30 [a0, some (.int x), a2] (.int x :: st) σ Q := ru_loc (q := (_, _)) f_M_leave_29 rfl rfl rfl
theorem f_M_leave_30 : am_cd k_M_leave 30 = some ((some .boolean), .iastore, (0, 0, 0, 0, 0, .null)) := rfl
theorem s_M_leave_30 {ls : am_L} {st : List Value} {σ : am_H} {Q : Option Value → am_H → Prop} {a : Nat} {j x : Int32} : ax k_M_leave 30 ls (.int x :: .int j :: .ref a :: st) σ Q = ax_f (am_j σ a) (fun q => q.1 = 0 ∧ am_ix j q.2.1 ∧ a < am_top ∧ ax k_M_leave 31 ls st (am_set σ a (am_ia 0 q.2.1 (upd q.2.2 j.toNatClampNeg x))) Q) := rv_iast f_M_leave_30 rfl
theorem f_M_leave_31 : am_cd k_M_leave 31 = some ((some .boolean), .aload_n 0, (0, 0, 0, 0, 0, .null)) := rfl
theorem s_M_leave_31 {a1 a2 : Option Value} {st : List Value} {σ : am_H} {Q : Option Value → am_H → Prop} {x : Nat} : ax k_M_leave 31 [some (.ref x), a1, a2] st σ Q = ax k_M_leave 32 [some (.ref x), a1, a2] (.ref x :: st) σ Q := ru_loc (q := (_, _)) f_M_leave_31 rfl rfl rfl
theorem f_M_leave_32 : am_cd k_M_leave 32 = some ((some .boolean), .getfield 54, (11, 21, 938, 0, 3, .null)) := rfl
theorem s_M_leave_32 {ls : am_L} {st : List Value} {σ : am_H} {Q : Option Value → am_H → Prop} {a : Nat} : ax k_M_leave 32 ls (.ref a :: st) σ Q = ax_f (am_fld σ a 11 21) (fun v => ax k_M_leave 35 ls (v :: st) σ Q) := ru_getf f_M_leave_32 rfl
theorem f_M_leave_35 : am_cd k_M_leave 35 = some ((some .boolean), .aload_n 0, (0, 0, 0, 0, 0, .null)) := rfl
theorem s_M_leave_35 {a1 a2 : Option Value} {st : List Value} {σ : am_H} {Q : Option Value → am_H → Prop} {x : Nat} : ax k_M_leave 35 [some (.ref x), a1, a2] st σ Q = ax k_M_leave 36 [some (.ref x), a1, a2] (.ref x :: st) σ Q := ru_loc (q := (_, _)) f_M_leave_35 rfl rfl rfl
theorem f_M_leave_36 : am_cd k_M_leave 36 = some ((some .boolean), .getfield 219, (11, 19, 936, 0, 0, .null)) := rfl
theorem s_M_leave_36 {ls : am_L} {st : List Value} {σ : am_H} {Q : Option Value → am_H → Prop} {a : Nat} : ax k_M_leave 36 ls (.ref a :: st) σ Q = ax_f (am_fld σ a 11 19) (fun v => ax k_M_leave 39 ls (v :: st) σ Q) := ru_getf f_M_leave_36 rfl
theorem f_M_leave_39 : am_cd k_M_leave 39 = some ((some .boolean), .aload_n 0, (0, 0, 0, 0, 0, .null)) := rfl
theorem s_M_leave_39 {a1 a2 : Option Value} {st : List Value} {σ : am_H} {Q : Option Value → am_H → Prop} {x : Nat} : ax k_M_leave 39 [some (.ref x), a1, a2] st σ Q = ax k_M_leave 40 [some (.ref x), a1, a2] (.ref x :: st) σ Q := ru_loc (q := (_, _)) f_M_leave_39 rfl rfl rfl
theorem f_M_leave_40 : am_cd k_M_leave 40 = some ((some .boolean), .getfield 161, (11, 0, 917, 0, 0, .null)) := rfl
theorem s_M_leave_40 {ls : am_L} {st : List Value} {σ : am_H} {Q : Option Value → am_H → Prop} {a : Nat} : ax k_M_leave 40 ls (.ref a :: st) σ Q = ax_f (am_fld σ a 11 0) (fun v => ax k_M_leave 43 ls (v :: st) σ Q) := ru_getf f_M_leave_40 rfl
theorem f_M_leave_43 : am_cd k_M_leave 43 = some ((some .boolean), .iastore, (0, 0, 0, 0, 0, .null)) := rfl
theorem s_M_leave_43 {ls : am_L} {st : List Value} {σ : am_H} {Q : Option Value → am_H → Prop} {a : Nat} {j x : Int32} : ax k_M_leave 43 ls (.int x :: .int j :: .ref a :: st) σ Q = ax_f (am_j σ a) (fun q => q.1 = 0 ∧ am_ix j q.2.1 ∧ a < am_top ∧ ax k_M_leave 44 ls st (am_set σ a (am_ia 0 q.2.1 (upd q.2.2 j.toNatClampNeg x))) Q) := rv_iast f_M_leave_43 rfl
theorem f_M_leave_44 : am_cd k_M_leave 44 = some ((some .boolean), .aload_n 0, (0, 0, 0, 0, 0, .null)) := rfl
theorem s_M_leave_44 {a1 a2 : Option Value} {st : List Value} {σ : am_H} {Q : Option Value → am_H → Prop} {x : Nat} : ax k_M_leave 44 [some (.ref x), a1, a2] st σ Q = ax k_M_leave 45 [some (.ref x), a1, a2] (.ref x :: st) σ Q := ru_loc (q := (_, _)) f_M_leave_44 rfl rfl rfl
theorem f_M_leave_45 : am_cd k_M_leave 45 = some ((some .boolean), .getfield 57, (11, 22, 939, 0, 3, .null)) := rfl
theorem s_M_leave_45 {ls : am_L} {st : List Value} {σ : am_H} {Q : Option Value → am_H → Prop} {a : Nat} : ax k_M_leave 45 ls (.ref a :: st) σ Q = ax_f (am_fld σ a 11 22) (fun v => ax k_M_leave 48 ls (v :: st) σ Q) := ru_getf f_M_leave_45 rfl
theorem f_M_leave_48 : am_cd k_M_leave 48 = some ((some .boolean), .aload_n 0, (0, 0, 0, 0, 0, .null)) := rfl
theorem s_M_leave_48 {a1 a2 : Option Value} {st : List Value} {σ : am_H} {Q : Option Value → am_H → Prop} {x : Nat} : ax k_M_leave 48 [some (.ref x), a1, a2] st σ Q = ax k_M_leave 49 [some (.ref x), a1, a2] (.ref x :: st) σ Q := ru_loc (q := (_, _)) f_M_leave_48 rfl rfl rfl
theorem f_M_leave_49 : am_cd k_M_leave 49 = some ((some .boolean), .getfield 219, (11, 19, 936, 0, 0, .null)) := rfl
theorem s_M_leave_49 {ls : am_L} {st : List Value} {σ : am_H} {Q : Option Value → am_H → Prop} {a : Nat} : ax k_M_leave 49 ls (.ref a :: st) σ Q = ax_f (am_fld σ a 11 19) (fun v => ax k_M_leave 52 ls (v :: st) σ Q) := ru_getf f_M_leave_49 rfl
theorem f_M_leave_52 : am_cd k_M_leave 52 = some ((some .boolean), .iload_n 2, (0, 0, 0, 0, 0, .null)) := rfl
theorem s_M_leave_52 {a0 a1 : Option Value} {st : List Value} {σ : am_H} {Q : Option Value → am_H → Prop} {x : Int32} : ax k_M_leave 52 [a0, a1, some (.int x)] st σ Q = ax k_M_leave 53 [a0, a1, some (.int x)] (.int x :: st) σ Q := ru_loc (q := (_, _)) f_M_leave_52 rfl rfl rfl
theorem f_M_leave_53 : am_cd k_M_leave 53 = some ((some .boolean), .bastore, (0, 0, 0, 0, 0, .null)) := rfl
theorem s_M_leave_53 {ls : am_L} {st : List Value} {σ : am_H} {Q : Option Value → am_H → Prop} {a : Nat} {j x : Int32} : ax k_M_leave 53 ls (.int x :: .int j :: .ref a :: st) σ Q = ax_f (am_j σ a) (fun q => q.1 = 1 ∧ am_ix j q.2.1 ∧ a < am_top ∧ (x = 0 ∨ x = 1) ∧ ax k_M_leave 54 ls st (am_set σ a (am_ia 1 q.2.1 (upd q.2.2 j.toNatClampNeg x))) Q) := rv_zast f_M_leave_53 rfl
theorem f_M_leave_54 : am_cd k_M_leave 54 = some ((some .boolean), .aload_n 0, (0, 0, 0, 0, 0, .null)) := rfl
theorem s_M_leave_54 {a1 a2 : Option Value} {st : List Value} {σ : am_H} {Q : Option Value → am_H → Prop} {x : Nat} : ax k_M_leave 54 [some (.ref x), a1, a2] st σ Q = ax k_M_leave 55 [some (.ref x), a1, a2] (.ref x :: st) σ Q := ru_loc (q := (_, _)) f_M_leave_54 rfl rfl rfl
theorem f_M_leave_55 : am_cd k_M_leave 55 = some ((some .boolean), .dup, (0, 0, 0, 0, 0, .null)) := rfl
theorem s_M_leave_55 {ls : am_L} {st : List Value} {σ : am_H} {Q : Option Value → am_H → Prop} {a : Nat} : ax k_M_leave 55 ls (.ref a :: st) σ Q = ax k_M_leave 56 ls (.ref a :: .ref a :: st) σ Q := ru_pure f_M_leave_55 rfl rfl
theorem f_M_leave_56 : am_cd k_M_leave 56 = some ((some .boolean), .getfield 219, (11, 19, 936, 0, 0, .null)) := rfl
theorem s_M_leave_56 {ls : am_L} {st : List Value} {σ : am_H} {Q : Option Value → am_H → Prop} {a : Nat} : ax k_M_leave 56 ls (.ref a :: st) σ Q = ax_f (am_fld σ a 11 19) (fun v => ax k_M_leave 59 ls (v :: st) σ Q) := ru_getf f_M_leave_56 rfl
theorem f_M_leave_59 : am_cd k_M_leave 59 = some ((some .boolean), .iconst 1, (0, 0, 0, 0, 0, .null)) := rfl
theorem s_M_leave_59 {ls : am_L} {st : List Value} {σ : am_H} {Q : Option Value → am_H → Prop} : ax k_M_leave 59 ls st σ Q = ax k_M_leave 60 ls (.int 1 :: st) σ Q := ru_iconst f_M_leave_59 (by decide +kernel) rfl
theorem f_M_leave_60 : am_cd k_M_leave 60 = some ((some .boolean), .iadd, (0, 0, 0, 0, 0, .null)) := rfl
theorem s_M_leave_60 {ls : am_L} {st : List Value} {σ : am_H} {Q : Option Value → am_H → Prop} {x y : Int32} : ax k_M_leave 60 ls (.int y :: .int x :: st) σ Q = ax k_M_leave 61 ls (.int (x + y) :: st) σ Q := ru_pure f_M_leave_60 rfl rfl
theorem f_M_leave_61 : am_cd k_M_leave 61 = some ((some .boolean), .putfield 219, (11, 19, 936, 0, 0, .null)) := rfl
theorem s_M_leave_61 {ls : am_L} {st : List Value} {σ : am_H} {Q : Option Value → am_H → Prop} {a : Nat} {v : Value} : ax k_M_leave 61 ls (v :: .ref a :: st) σ Q = ax_f (am_fld σ a 11 19) (fun _ => a < am_top ∧ am_okv 0 v = true ∧ ax k_M_leave 64 ls st (am_put σ a 19 v) Q) := ru_putf f_M_leave_61 rfl
theorem f_M_leave_64 : am_cd k_M_leave 64 = some ((some .boolean), .iconst 1, (0, 0, 0, 0, 0, .null)) := rfl
theorem s_M_leave_64 {ls : am_L} {st : List Value} {σ : am_H} {Q : Option Value → am_H → Prop} : ax k_M_leave 64 ls st σ Q = ax k_M_leave 65 ls (.int 1 :: st) σ Q := ru_iconst f_M_leave_64 (by decide +kernel) rfl
theorem f_M_leave_65 : am_cd k_M_leave 65 = some ((some .boolean), .ireturn, (0, 0, 0, 0, 0, .null)) := rfl
theorem s_M_leave_65 {ls : am_L} {σ : am_H} {Q : Option Value → am_H → Prop} {v : Int32} : ax k_M_leave 65 ls ([.int v]) σ Q = (am_nar .boolean v = true ∧ Q (some (.int v)) σ) := ru_iret f_M_leave_65
theorem f_M_embargo_0 : am_cd k_M_embargo 0 = some ((some .boolean), .aload_n 0, (0, 0, 0, 0, 0, .null)) := rfl
theorem s_M_embargo_0 {a1 a2 : Option Value} {st : List Value} {σ : am_H} {Q : Option Value → am_H → Prop} {x : Nat} : ax k_M_embargo 0 [some (.ref x), a1, a2] st σ Q = ax k_M_embargo 1 [some (.ref x), a1, a2] (.ref x :: st) σ Q := ru_loc (q := (_, _)) f_M_embargo_0 rfl rfl rfl
theorem f_M_embargo_1 : am_cd k_M_embargo 1 = some ((some .boolean), .iload_n 1, (0, 0, 0, 0, 0, .null)) := rfl
theorem s_M_embargo_1 {a0 a2 : Option Value} {st : List Value} {σ : am_H} {Q : Option Value → am_H → Prop} {x : Int32} : ax k_M_embargo 1 [a0, some (.int x), a2] st σ Q = ax k_M_embargo 2 [a0, some (.int x), a2] (.int x :: st) σ Q := ru_loc (q := (_, _)) f_M_embargo_1 rfl rfl rfl
theorem f_M_embargo_2 : am_cd k_M_embargo 2 = some ((some .boolean), .invokevirtual 195, (115, 1, 1155, 0, 11, .null)) := rfl
theorem s_M_embargo_2 {ls : am_L} {st : List Value} {σ : am_H} {Q : Option Value → am_H → Prop} {p0 : Int32} {b : Nat} (hi : am_is σ b 11) (h8 : am_s8 st) : ax k_M_embargo 2 ls (.int p0 :: .ref b :: st) σ Q = ax k_M_isPicture 0 [some (.ref b), some (.int p0)] [] σ (ax_k k_M_embargo 5 ls st Q) := ru_vir (M' := rk_M_isPicture) f_M_embargo_2 rfl rfl rfl rfl hi h8 rfl rfl rfl rfl rfl
theorem f_M_embargo_5 : am_cd k_M_embargo 5 = some ((some .boolean), .ifCond .eq 22, (27, 0, 0, 0, 0, .null)) := rfl
theorem s_M_embargo_5 {ls : am_L} {st : List Value} {σ : am_H} {Q : Option Value → am_H → Prop} {x : Int32} : ax k_M_embargo 5 ls (.int x :: st) σ Q = (if x = 0 then ax k_M_embargo 27 ls st σ Q else ax k_M_embargo 8 ls st σ Q) := (ru_if f_M_embargo_5 rfl).trans (ru_i_eq _ _ _ _)
theorem f_M_embargo_8 : am_cd k_M_embargo 8 = some ((some .boolean), .iload_n 2, (0, 0, 0, 0, 0, .null)) := rfl
theorem s_M_embargo_8 {a0 a1 : Option Value} {st : List Value} {σ : am_H} {Q : Option Value → am_H → Prop} {x : Int32} : ax k_M_embargo 8 [a0, a1, some (.int x)] st σ Q = ax k_M_embargo 9 [a0, a1, some (.int x)] (.int x :: st) σ Q := ru_loc (q := (_, _)) f_M_embargo_8 rfl rfl rfl
theorem f_M_embargo_9 : am_cd k_M_embargo 9 = some ((some .boolean), .iconst 0, (0, 0, 0, 0, 0, .null)) := rfl
theorem s_M_embargo_9 {ls : am_L} {st : List Value} {σ : am_H} {Q : Option Value → am_H → Prop} : ax k_M_embargo 9 ls st σ Q = ax k_M_embargo 10 ls (.int 0 :: st) σ Q := ru_iconst f_M_embargo_9 (by decide +kernel) rfl
theorem f_M_embargo_10 : am_cd k_M_embargo 10 = some ((some .boolean), .ldc 164, (0, 0, 1109, 0, 0, .int (100000))) := rfl
theorem s_M_embargo_10 {ls : am_L} {st : List Value} {σ : am_H} {Q : Option Value → am_H → Prop} : ax k_M_embargo 10 ls st σ Q = ax k_M_embargo 12 ls (.int (100000) :: st) σ Q := ru_rd f_M_embargo_10 rfl rfl rfl rfl rfl
theorem f_M_embargo_12 : am_cd k_M_embargo 12 = some ((some .boolean), .invokestatic 154, (113, 3, 1110, 0, 11, .null)) := rfl
theorem s_M_embargo_12 {ls : am_L} {st : List Value} {σ : am_H} {Q : Option Value → am_H → Prop} {p0 : Int32} {p1 : Int32} {p2 : Int32} (h8 : am_s8 st) : ax k_M_embargo 12 ls (.int p2 :: .int p1 :: .int p0 :: st) σ Q = ax k_M_isIn 0 [some (.int p0), some (.int p1), some (.int p2)] [] σ (ax_k k_M_embargo 15 ls st Q) := ru_sta (M' := rk_M_isIn) f_M_embargo_12 rfl (by decide) rfl (by simp) rfl h8 rfl rfl rfl rfl rfl
theorem f_M_embargo_15 : am_cd k_M_embargo 15 = some ((some .boolean), .ifCond .eq 12, (27, 0, 0, 0, 0, .null)) := rfl
theorem s_M_embargo_15 {ls : am_L} {st : List Value} {σ : am_H} {Q : Option Value → am_H → Prop} {x : Int32} : ax k_M_embargo 15 ls (.int x :: st) σ Q = (if x = 0 then ax k_M_embargo 27 ls st σ Q else ax k_M_embargo 18 ls st σ Q) := (ru_if f_M_embargo_15 rfl).trans (ru_i_eq _ _ _ _)
theorem f_M_embargo_18 : am_cd k_M_embargo 18 = some ((some .boolean), .aload_n 0, (0, 0, 0, 0, 0, .null)) := rfl
theorem s_M_embargo_18 {a1 a2 : Option Value} {st : List Value} {σ : am_H} {Q : Option Value → am_H → Prop} {x : Nat} : ax k_M_embargo 18 [some (.ref x), a1, a2] st σ Q = ax k_M_embargo 19 [some (.ref x), a1, a2] (.ref x :: st) σ Q := ru_loc (q := (_, _)) f_M_embargo_18 rfl rfl rfl
theorem f_M_embargo_19 : am_cd k_M_embargo 19 = some ((some .boolean), .getfield 222, (11, 23, 940, 0, 0, .null)) := rfl
theorem s_M_embargo_19 {ls : am_L} {st : List Value} {σ : am_H} {Q : Option Value → am_H → Prop} {a : Nat} : ax k_M_embargo 19 ls (.ref a :: st) σ Q = ax_f (am_fld σ a 11 23) (fun v => ax k_M_embargo 22 ls (v :: st) σ Q) := ru_getf f_M_embargo_19 rfl
theorem f_M_embargo_22 : am_cd k_M_embargo 22 = some ((some .boolean), .bipush 100, (0, 0, 0, 0, 0, .null)) := rfl
theorem s_M_embargo_22 {ls : am_L} {st : List Value} {σ : am_H} {Q : Option Value → am_H → Prop} : ax k_M_embargo 22 ls st σ Q = ax k_M_embargo 24 ls (.int 100 :: st) σ Q := ru_bipush f_M_embargo_22 (by decide +kernel) rfl
theorem f_M_embargo_24 : am_cd k_M_embargo 24 = some ((some .boolean), .if_icmp .ne 5, (29, 0, 0, 0, 0, .null)) := rfl
theorem s_M_embargo_24 {ls : am_L} {st : List Value} {σ : am_H} {Q : Option Value → am_H → Prop} {x y : Int32} : ax k_M_embargo 24 ls (.int y :: .int x :: st) σ Q = (if x = y then ax k_M_embargo 27 ls st σ Q else ax k_M_embargo 29 ls st σ Q) := (ru_icmp f_M_embargo_24 rfl).trans (ru_i_ne _ _ _ _)
theorem f_M_embargo_27 : am_cd k_M_embargo 27 = some ((some .boolean), .iconst 0, (0, 0, 0, 0, 0, .null)) := rfl
theorem s_M_embargo_27 {ls : am_L} {st : List Value} {σ : am_H} {Q : Option Value → am_H → Prop} : ax k_M_embargo 27 ls st σ Q = ax k_M_embargo 28 ls (.int 0 :: st) σ Q := ru_iconst f_M_embargo_27 (by decide +kernel) rfl
theorem f_M_embargo_28 : am_cd k_M_embargo 28 = some ((some .boolean), .ireturn, (0, 0, 0, 0, 0, .null)) := rfl
theorem s_M_embargo_28 {ls : am_L} {σ : am_H} {Q : Option Value → am_H → Prop} {v : Int32} : ax k_M_embargo 28 ls ([.int v]) σ Q = (am_nar .boolean v = true ∧ Q (some (.int v)) σ) := ru_iret f_M_embargo_28
theorem f_M_embargo_29 : am_cd k_M_embargo 29 = some ((some .boolean), .aload_n 0, (0, 0, 0, 0, 0, .null)) := rfl
theorem s_M_embargo_29 {a1 a2 : Option Value} {st : List Value} {σ : am_H} {Q : Option Value → am_H → Prop} {x : Nat} : ax k_M_embargo 29 [some (.ref x), a1, a2] st σ Q = ax k_M_embargo 30 [some (.ref x), a1, a2] (.ref x :: st) σ Q := ru_loc (q := (_, _)) f_M_embargo_29 rfl rfl rfl
theorem f_M_embargo_30 : am_cd k_M_embargo 30 = some ((some .boolean), .getfield 60, (11, 24, 941, 0, 3, .null)) := rfl
theorem s_M_embargo_30 {ls : am_L} {st : List Value} {σ : am_H} {Q : Option Value → am_H → Prop} {a : Nat} : ax k_M_embargo 30 ls (.ref a :: st) σ Q = ax_f (am_fld σ a 11 24) (fun v => ax k_M_embargo 33 ls (v :: st) σ Q) := ru_getf f_M_embargo_30 rfl
theorem f_M_embargo_33 : am_cd k_M_embargo 33 = some ((some .boolean), .aload_n 0, (0, 0, 0, 0, 0, .null)) := rfl
theorem s_M_embargo_33 {a1 a2 : Option Value} {st : List Value} {σ : am_H} {Q : Option Value → am_H → Prop} {x : Nat} : ax k_M_embargo 33 [some (.ref x), a1, a2] st σ Q = ax k_M_embargo 34 [some (.ref x), a1, a2] (.ref x :: st) σ Q := ru_loc (q := (_, _)) f_M_embargo_33 rfl rfl rfl
theorem f_M_embargo_34 : am_cd k_M_embargo 34 = some ((some .boolean), .getfield 222, (11, 23, 940, 0, 0, .null)) := rfl
theorem s_M_embargo_34 {ls : am_L} {st : List Value} {σ : am_H} {Q : Option Value → am_H → Prop} {a : Nat} : ax k_M_embargo 34 ls (.ref a :: st) σ Q = ax_f (am_fld σ a 11 23) (fun v => ax k_M_embargo 37 ls (v :: st) σ Q) := ru_getf f_M_embargo_34 rfl
theorem f_M_embargo_37 : am_cd k_M_embargo 37 = some ((some .boolean), .iload_n 1, (0, 0, 0, 0, 0, .null)) := rfl
theorem s_M_embargo_37 {a0 a2 : Option Value} {st : List Value} {σ : am_H} {Q : Option Value → am_H → Prop} {x : Int32} : ax k_M_embargo 37 [a0, some (.int x), a2] st σ Q = ax k_M_embargo 38 [a0, some (.int x), a2] (.int x :: st) σ Q := ru_loc (q := (_, _)) f_M_embargo_37 rfl rfl rfl
theorem f_M_embargo_38 : am_cd k_M_embargo 38 = some ((some .boolean), .iastore, (0, 0, 0, 0, 0, .null)) := rfl
theorem s_M_embargo_38 {ls : am_L} {st : List Value} {σ : am_H} {Q : Option Value → am_H → Prop} {a : Nat} {j x : Int32} : ax k_M_embargo 38 ls (.int x :: .int j :: .ref a :: st) σ Q = ax_f (am_j σ a) (fun q => q.1 = 0 ∧ am_ix j q.2.1 ∧ a < am_top ∧ ax k_M_embargo 39 ls st (am_set σ a (am_ia 0 q.2.1 (upd q.2.2 j.toNatClampNeg x))) Q) := rv_iast f_M_embargo_38 rfl
theorem f_M_embargo_39 : am_cd k_M_embargo 39 = some ((some .boolean), .aload_n 0, (0, 0, 0, 0, 0, .null)) := rfl
theorem s_M_embargo_39 {a1 a2 : Option Value} {st : List Value} {σ : am_H} {Q : Option Value → am_H → Prop} {x : Nat} : ax k_M_embargo 39 [some (.ref x), a1, a2] st σ Q = ax k_M_embargo 40 [some (.ref x), a1, a2] (.ref x :: st) σ Q := ru_loc (q := (_, _)) f_M_embargo_39 rfl rfl rfl
theorem f_M_embargo_40 : am_cd k_M_embargo 40 = some ((some .boolean), .getfield 63, (11, 25, 942, 0, 3, .null)) := rfl
theorem s_M_embargo_40 {ls : am_L} {st : List Value} {σ : am_H} {Q : Option Value → am_H → Prop} {a : Nat} : ax k_M_embargo 40 ls (.ref a :: st) σ Q = ax_f (am_fld σ a 11 25) (fun v => ax k_M_embargo 43 ls (v :: st) σ Q) := ru_getf f_M_embargo_40 rfl
theorem f_M_embargo_43 : am_cd k_M_embargo 43 = some ((some .boolean), .aload_n 0, (0, 0, 0, 0, 0, .null)) := rfl
theorem s_M_embargo_43 {a1 a2 : Option Value} {st : List Value} {σ : am_H} {Q : Option Value → am_H → Prop} {x : Nat} : ax k_M_embargo 43 [some (.ref x), a1, a2] st σ Q = ax k_M_embargo 44 [some (.ref x), a1, a2] (.ref x :: st) σ Q := ru_loc (q := (_, _)) f_M_embargo_43 rfl rfl rfl
theorem f_M_embargo_44 : am_cd k_M_embargo 44 = some ((some .boolean), .getfield 222, (11, 23, 940, 0, 0, .null)) := rfl
theorem s_M_embargo_44 {ls : am_L} {st : List Value} {σ : am_H} {Q : Option Value → am_H → Prop} {a : Nat} : ax k_M_embargo 44 ls (.ref a :: st) σ Q = ax_f (am_fld σ a 11 23) (fun v => ax k_M_embargo 47 ls (v :: st) σ Q) := ru_getf f_M_embargo_44 rfl
theorem f_M_embargo_47 : am_cd k_M_embargo 47 = some ((some .boolean), .aload_n 0, (0, 0, 0, 0, 0, .null)) := rfl
theorem s_M_embargo_47 {a1 a2 : Option Value} {st : List Value} {σ : am_H} {Q : Option Value → am_H → Prop} {x : Nat} : ax k_M_embargo 47 [some (.ref x), a1, a2] st σ Q = ax k_M_embargo 48 [some (.ref x), a1, a2] (.ref x :: st) σ Q := ru_loc (q := (_, _)) f_M_embargo_47 rfl rfl rfl
theorem f_M_embargo_48 : am_cd k_M_embargo 48 = some ((some .boolean), .getfield 161, (11, 0, 917, 0, 0, .null)) := rfl
theorem s_M_embargo_48 {ls : am_L} {st : List Value} {σ : am_H} {Q : Option Value → am_H → Prop} {a : Nat} : ax k_M_embargo 48 ls (.ref a :: st) σ Q = ax_f (am_fld σ a 11 0) (fun v => ax k_M_embargo 51 ls (v :: st) σ Q) := ru_getf f_M_embargo_48 rfl
theorem f_M_embargo_51 : am_cd k_M_embargo 51 = some ((some .boolean), .iastore, (0, 0, 0, 0, 0, .null)) := rfl
theorem s_M_embargo_51 {ls : am_L} {st : List Value} {σ : am_H} {Q : Option Value → am_H → Prop} {a : Nat} {j x : Int32} : ax k_M_embargo 51 ls (.int x :: .int j :: .ref a :: st) σ Q = ax_f (am_j σ a) (fun q => q.1 = 0 ∧ am_ix j q.2.1 ∧ a < am_top ∧ ax k_M_embargo 52 ls st (am_set σ a (am_ia 0 q.2.1 (upd q.2.2 j.toNatClampNeg x))) Q) := rv_iast f_M_embargo_51 rfl
theorem f_M_embargo_52 : am_cd k_M_embargo 52 = some ((some .boolean), .aload_n 0, (0, 0, 0, 0, 0, .null)) := rfl
theorem s_M_embargo_52 {a1 a2 : Option Value} {st : List Value} {σ : am_H} {Q : Option Value → am_H → Prop} {x : Nat} : ax k_M_embargo 52 [some (.ref x), a1, a2] st σ Q = ax k_M_embargo 53 [some (.ref x), a1, a2] (.ref x :: st) σ Q := ru_loc (q := (_, _)) f_M_embargo_52 rfl rfl rfl
theorem f_M_embargo_53 : am_cd k_M_embargo 53 = some ((some .boolean), .getfield 66, (11, 26, 943, 0, 3, .null)) := rfl
theorem s_M_embargo_53 {ls : am_L} {st : List Value} {σ : am_H} {Q : Option Value → am_H → Prop} {a : Nat} : ax k_M_embargo 53 ls (.ref a :: st) σ Q = ax_f (am_fld σ a 11 26) (fun v => ax k_M_embargo 56 ls (v :: st) σ Q) := ru_getf f_M_embargo_53 rfl
theorem f_M_embargo_56 : am_cd k_M_embargo 56 = some ((some .boolean), .aload_n 0, (0, 0, 0, 0, 0, .null)) := rfl
theorem s_M_embargo_56 {a1 a2 : Option Value} {st : List Value} {σ : am_H} {Q : Option Value → am_H → Prop} {x : Nat} : ax k_M_embargo 56 [some (.ref x), a1, a2] st σ Q = ax k_M_embargo 57 [some (.ref x), a1, a2] (.ref x :: st) σ Q := ru_loc (q := (_, _)) f_M_embargo_56 rfl rfl rfl
theorem f_M_embargo_57 : am_cd k_M_embargo 57 = some ((some .boolean), .getfield 222, (11, 23, 940, 0, 0, .null)) := rfl
theorem s_M_embargo_57 {ls : am_L} {st : List Value} {σ : am_H} {Q : Option Value → am_H → Prop} {a : Nat} : ax k_M_embargo 57 ls (.ref a :: st) σ Q = ax_f (am_fld σ a 11 23) (fun v => ax k_M_embargo 60 ls (v :: st) σ Q) := ru_getf f_M_embargo_57 rfl
theorem f_M_embargo_60 : am_cd k_M_embargo 60 = some ((some .boolean), .iload_n 2, (0, 0, 0, 0, 0, .null)) := rfl
theorem s_M_embargo_60 {a0 a1 : Option Value} {st : List Value} {σ : am_H} {Q : Option Value → am_H → Prop} {x : Int32} : ax k_M_embargo 60 [a0, a1, some (.int x)] st σ Q = ax k_M_embargo 61 [a0, a1, some (.int x)] (.int x :: st) σ Q := ru_loc (q := (_, _)) f_M_embargo_60 rfl rfl rfl
theorem f_M_embargo_61 : am_cd k_M_embargo 61 = some ((some .boolean), .iastore, (0, 0, 0, 0, 0, .null)) := rfl
theorem s_M_embargo_61 {ls : am_L} {st : List Value} {σ : am_H} {Q : Option Value → am_H → Prop} {a : Nat} {j x : Int32} : ax k_M_embargo 61 ls (.int x :: .int j :: .ref a :: st) σ Q = ax_f (am_j σ a) (fun q => q.1 = 0 ∧ am_ix j q.2.1 ∧ a < am_top ∧ ax k_M_embargo 62 ls st (am_set σ a (am_ia 0 q.2.1 (upd q.2.2 j.toNatClampNeg x))) Q) := rv_iast f_M_embargo_61 rfl
theorem f_M_embargo_62 : am_cd k_M_embargo 62 = some ((some .boolean), .aload_n 0, (0, 0, 0, 0, 0, .null)) := rfl
theorem s_M_embargo_62 {a1 a2 : Option Value} {st : List Value} {σ : am_H} {Q : Option Value → am_H → Prop} {x : Nat} : ax k_M_embargo 62 [some (.ref x), a1, a2] st σ Q = ax k_M_embargo 63 [some (.ref x), a1, a2] (.ref x :: st) σ Q := ru_loc (q := (_, _)) f_M_embargo_62 rfl rfl rfl
theorem f_M_embargo_63 : am_cd k_M_embargo 63 = some ((some .boolean), .dup, (0, 0, 0, 0, 0, .null)) := rfl
theorem s_M_embargo_63 {ls : am_L} {st : List Value} {σ : am_H} {Q : Option Value → am_H → Prop} {a : Nat} : ax k_M_embargo 63 ls (.ref a :: st) σ Q = ax k_M_embargo 64 ls (.ref a :: .ref a :: st) σ Q := ru_pure f_M_embargo_63 rfl rfl
theorem f_M_embargo_64 : am_cd k_M_embargo 64 = some ((some .boolean), .getfield 222, (11, 23, 940, 0, 0, .null)) := rfl
theorem s_M_embargo_64 {ls : am_L} {st : List Value} {σ : am_H} {Q : Option Value → am_H → Prop} {a : Nat} : ax k_M_embargo 64 ls (.ref a :: st) σ Q = ax_f (am_fld σ a 11 23) (fun v => ax k_M_embargo 67 ls (v :: st) σ Q) := ru_getf f_M_embargo_64 rfl
theorem f_M_embargo_67 : am_cd k_M_embargo 67 = some ((some .boolean), .iconst 1, (0, 0, 0, 0, 0, .null)) := rfl
theorem s_M_embargo_67 {ls : am_L} {st : List Value} {σ : am_H} {Q : Option Value → am_H → Prop} : ax k_M_embargo 67 ls st σ Q = ax k_M_embargo 68 ls (.int 1 :: st) σ Q := ru_iconst f_M_embargo_67 (by decide +kernel) rfl
theorem f_M_embargo_68 : am_cd k_M_embargo 68 = some ((some .boolean), .iadd, (0, 0, 0, 0, 0, .null)) := rfl
theorem s_M_embargo_68 {ls : am_L} {st : List Value} {σ : am_H} {Q : Option Value → am_H → Prop} {x y : Int32} : ax k_M_embargo 68 ls (.int y :: .int x :: st) σ Q = ax k_M_embargo 69 ls (.int (x + y) :: st) σ Q := ru_pure f_M_embargo_68 rfl rfl
theorem f_M_embargo_69 : am_cd k_M_embargo 69 = some ((some .boolean), .putfield 222, (11, 23, 940, 0, 0, .null)) := rfl
theorem s_M_embargo_69 {ls : am_L} {st : List Value} {σ : am_H} {Q : Option Value → am_H → Prop} {a : Nat} {v : Value} : ax k_M_embargo 69 ls (v :: .ref a :: st) σ Q = ax_f (am_fld σ a 11 23) (fun _ => a < am_top ∧ am_okv 0 v = true ∧ ax k_M_embargo 72 ls st (am_put σ a 23 v) Q) := ru_putf f_M_embargo_69 rfl
theorem f_M_embargo_72 : am_cd k_M_embargo 72 = some ((some .boolean), .iconst 1, (0, 0, 0, 0, 0, .null)) := rfl
theorem s_M_embargo_72 {ls : am_L} {st : List Value} {σ : am_H} {Q : Option Value → am_H → Prop} : ax k_M_embargo 72 ls st σ Q = ax k_M_embargo 73 ls (.int 1 :: st) σ Q := ru_iconst f_M_embargo_72 (by decide +kernel) rfl
theorem f_M_embargo_73 : am_cd k_M_embargo 73 = some ((some .boolean), .ireturn, (0, 0, 0, 0, 0, .null)) := rfl
theorem s_M_embargo_73 {ls : am_L} {σ : am_H} {Q : Option Value → am_H → Prop} {v : Int32} : ax k_M_embargo 73 ls ([.int v]) σ Q = (am_nar .boolean v = true ∧ Q (some (.int v)) σ) := ru_iret f_M_embargo_73
theorem f_M_hasLeave_0 : am_cd k_M_hasLeave 0 = some ((some .boolean), .iconst 1, (0, 0, 0, 0, 0, .null)) := rfl
theorem s_M_hasLeave_0 {ls : am_L} {st : List Value} {σ : am_H} {Q : Option Value → am_H → Prop} : ax k_M_hasLeave 0 ls st σ Q = ax k_M_hasLeave 1 ls (.int 1 :: st) σ Q := ru_iconst f_M_hasLeave_0 (by decide +kernel) rfl
theorem f_M_hasLeave_1 : am_cd k_M_hasLeave 1 = some ((some .boolean), .istore_n 3, (0, 0, 0, 0, 0, .null)) := rfl
theorem s_M_hasLeave_1 {a0 a1 a2 a3 a4 : Option Value} {st : List Value} {σ : am_H} {Q : Option Value → am_H → Prop} {x : Int32} (hc : am_c2 a2 = false) : ax k_M_hasLeave 1 [a0, a1, a2, a3, a4] (.int x :: st) σ Q = ax k_M_hasLeave 2 [a0, a1, a2, some (.int x), a4] st σ Q := ru_istore_n f_M_hasLeave_1 (Nat.le_of_ble_eq_true rfl) (ru_st1 (Nat.le_of_ble_eq_true rfl) (am_clr_c2 hc rfl) rfl) rfl
theorem f_M_hasLeave_2 : am_cd k_M_hasLeave 2 = some ((some .boolean), .iconst 0, (0, 0, 0, 0, 0, .null)) := rfl
theorem s_M_hasLeave_2 {ls : am_L} {st : List Value} {σ : am_H} {Q : Option Value → am_H → Prop} : ax k_M_hasLeave 2 ls st σ Q = ax k_M_hasLeave 3 ls (.int 0 :: st) σ Q := ru_iconst f_M_hasLeave_2 (by decide +kernel) rfl
theorem f_M_hasLeave_3 : am_cd k_M_hasLeave 3 = some ((some .boolean), .istore 4, (0, 0, 0, 0, 0, .null)) := rfl
theorem s_M_hasLeave_3 {a0 a1 a2 a3 a4 : Option Value} {st : List Value} {σ : am_H} {Q : Option Value → am_H → Prop} {x : Int32} (hc : am_c2 a3 = false) : ax k_M_hasLeave 3 [a0, a1, a2, a3, a4] (.int x :: st) σ Q = ax k_M_hasLeave 5 [a0, a1, a2, a3, some (.int x)] st σ Q := ru_istore f_M_hasLeave_3 (Nat.le_of_ble_eq_true rfl) (ru_st1 (Nat.le_of_ble_eq_true rfl) (am_clr_c2 hc rfl) rfl) rfl
theorem f_M_hasLeave_5 : am_cd k_M_hasLeave 5 = some ((some .boolean), .iload 4, (0, 0, 0, 0, 0, .null)) := rfl
theorem s_M_hasLeave_5 {a0 a1 a2 a3 : Option Value} {st : List Value} {σ : am_H} {Q : Option Value → am_H → Prop} {x : Int32} : ax k_M_hasLeave 5 [a0, a1, a2, a3, some (.int x)] st σ Q = ax k_M_hasLeave 7 [a0, a1, a2, a3, some (.int x)] (.int x :: st) σ Q := ru_loc (q := (_, _)) f_M_hasLeave_5 rfl rfl rfl
theorem f_M_hasLeave_7 : am_cd k_M_hasLeave 7 = some ((some .boolean), .aload_n 0, (0, 0, 0, 0, 0, .null)) := rfl
theorem s_M_hasLeave_7 {a1 a2 a3 a4 : Option Value} {st : List Value} {σ : am_H} {Q : Option Value → am_H → Prop} {x : Nat} : ax k_M_hasLeave 7 [some (.ref x), a1, a2, a3, a4] st σ Q = ax k_M_hasLeave 8 [some (.ref x), a1, a2, a3, a4] (.ref x :: st) σ Q := ru_loc (q := (_, _)) f_M_hasLeave_7 rfl rfl rfl
theorem f_M_hasLeave_8 : am_cd k_M_hasLeave 8 = some ((some .boolean), .getfield 219, (11, 19, 936, 0, 0, .null)) := rfl
theorem s_M_hasLeave_8 {ls : am_L} {st : List Value} {σ : am_H} {Q : Option Value → am_H → Prop} {a : Nat} : ax k_M_hasLeave 8 ls (.ref a :: st) σ Q = ax_f (am_fld σ a 11 19) (fun v => ax k_M_hasLeave 11 ls (v :: st) σ Q) := ru_getf f_M_hasLeave_8 rfl
theorem f_M_hasLeave_11 : am_cd k_M_hasLeave 11 = some ((some .boolean), .if_icmp .ge 39, (50, 0, 0, 0, 0, .null)) := rfl
theorem s_M_hasLeave_11 {ls : am_L} {st : List Value} {σ : am_H} {Q : Option Value → am_H → Prop} {x y : Int32} : ax k_M_hasLeave 11 ls (.int y :: .int x :: st) σ Q = (if x < y then ax k_M_hasLeave 14 ls st σ Q else ax k_M_hasLeave 50 ls st σ Q) := (ru_icmp f_M_hasLeave_11 rfl).trans (ru_i_ge _ _ _ _)
theorem f_M_hasLeave_14 : am_cd k_M_hasLeave 14 = some ((some .boolean), .aload_n 0, (0, 0, 0, 0, 0, .null)) := rfl
theorem s_M_hasLeave_14 {a1 a2 a3 a4 : Option Value} {st : List Value} {σ : am_H} {Q : Option Value → am_H → Prop} {x : Nat} : ax k_M_hasLeave 14 [some (.ref x), a1, a2, a3, a4] st σ Q = ax k_M_hasLeave 15 [some (.ref x), a1, a2, a3, a4] (.ref x :: st) σ Q := ru_loc (q := (_, _)) f_M_hasLeave_14 rfl rfl rfl
theorem f_M_hasLeave_15 : am_cd k_M_hasLeave 15 = some ((some .boolean), .getfield 51, (11, 20, 937, 0, 3, .null)) := rfl
theorem s_M_hasLeave_15 {ls : am_L} {st : List Value} {σ : am_H} {Q : Option Value → am_H → Prop} {a : Nat} : ax k_M_hasLeave 15 ls (.ref a :: st) σ Q = ax_f (am_fld σ a 11 20) (fun v => ax k_M_hasLeave 18 ls (v :: st) σ Q) := ru_getf f_M_hasLeave_15 rfl
theorem f_M_hasLeave_18 : am_cd k_M_hasLeave 18 = some ((some .boolean), .iload 4, (0, 0, 0, 0, 0, .null)) := rfl
theorem s_M_hasLeave_18 {a0 a1 a2 a3 : Option Value} {st : List Value} {σ : am_H} {Q : Option Value → am_H → Prop} {x : Int32} : ax k_M_hasLeave 18 [a0, a1, a2, a3, some (.int x)] st σ Q = ax k_M_hasLeave 20 [a0, a1, a2, a3, some (.int x)] (.int x :: st) σ Q := ru_loc (q := (_, _)) f_M_hasLeave_18 rfl rfl rfl
theorem f_M_hasLeave_20 : am_cd k_M_hasLeave 20 = some ((some .boolean), .iaload, (0, 0, 0, 0, 0, .null)) := rfl
theorem s_M_hasLeave_20 {ls : am_L} {st : List Value} {σ : am_H} {Q : Option Value → am_H → Prop} {a : Nat} {j : Int32} : ax k_M_hasLeave 20 ls (.int j :: .ref a :: st) σ Q = ax_f (am_j σ a) (fun q => q.1 = 0 ∧ am_ix j q.2.1 ∧ ax k_M_hasLeave 21 ls (.int (q.2.2 j.toNatClampNeg) :: st) σ Q) := rv_iald f_M_hasLeave_20 rfl
theorem f_M_hasLeave_21 : am_cd k_M_hasLeave 21 = some ((some .boolean), .iload_n 1, (0, 0, 0, 0, 0, .null)) := rfl
theorem s_M_hasLeave_21 {a0 a2 a3 a4 : Option Value} {st : List Value} {σ : am_H} {Q : Option Value → am_H → Prop} {x : Int32} : ax k_M_hasLeave 21 [a0, some (.int x), a2, a3, a4] st σ Q = ax k_M_hasLeave 22 [a0, some (.int x), a2, a3, a4] (.int x :: st) σ Q := ru_loc (q := (_, _)) f_M_hasLeave_21 rfl rfl rfl
theorem f_M_hasLeave_22 : am_cd k_M_hasLeave 22 = some ((some .boolean), .if_icmp .ne 22, (44, 0, 0, 0, 0, .null)) := rfl
theorem s_M_hasLeave_22 {ls : am_L} {st : List Value} {σ : am_H} {Q : Option Value → am_H → Prop} {x y : Int32} : ax k_M_hasLeave 22 ls (.int y :: .int x :: st) σ Q = (if x = y then ax k_M_hasLeave 25 ls st σ Q else ax k_M_hasLeave 44 ls st σ Q) := (ru_icmp f_M_hasLeave_22 rfl).trans (ru_i_ne _ _ _ _)
theorem f_M_hasLeave_25 : am_cd k_M_hasLeave 25 = some ((some .boolean), .aload_n 0, (0, 0, 0, 0, 0, .null)) := rfl
theorem s_M_hasLeave_25 {a1 a2 a3 a4 : Option Value} {st : List Value} {σ : am_H} {Q : Option Value → am_H → Prop} {x : Nat} : ax k_M_hasLeave 25 [some (.ref x), a1, a2, a3, a4] st σ Q = ax k_M_hasLeave 26 [some (.ref x), a1, a2, a3, a4] (.ref x :: st) σ Q := ru_loc (q := (_, _)) f_M_hasLeave_25 rfl rfl rfl
theorem f_M_hasLeave_26 : am_cd k_M_hasLeave 26 = some ((some .boolean), .getfield 54, (11, 21, 938, 0, 3, .null)) := rfl
theorem s_M_hasLeave_26 {ls : am_L} {st : List Value} {σ : am_H} {Q : Option Value → am_H → Prop} {a : Nat} : ax k_M_hasLeave 26 ls (.ref a :: st) σ Q = ax_f (am_fld σ a 11 21) (fun v => ax k_M_hasLeave 29 ls (v :: st) σ Q) := ru_getf f_M_hasLeave_26 rfl
theorem f_M_hasLeave_29 : am_cd k_M_hasLeave 29 = some ((some .boolean), .iload 4, (0, 0, 0, 0, 0, .null)) := rfl
theorem s_M_hasLeave_29 {a0 a1 a2 a3 : Option Value} {st : List Value} {σ : am_H} {Q : Option Value → am_H → Prop} {x : Int32} : ax k_M_hasLeave 29 [a0, a1, a2, a3, some (.int x)] st σ Q = ax k_M_hasLeave 31 [a0, a1, a2, a3, some (.int x)] (.int x :: st) σ Q := ru_loc (q := (_, _)) f_M_hasLeave_29 rfl rfl rfl
theorem f_M_hasLeave_31 : am_cd k_M_hasLeave 31 = some ((some .boolean), .iaload, (0, 0, 0, 0, 0, .null)) := rfl
theorem s_M_hasLeave_31 {ls : am_L} {st : List Value} {σ : am_H} {Q : Option Value → am_H → Prop} {a : Nat} {j : Int32} : ax k_M_hasLeave 31 ls (.int j :: .ref a :: st) σ Q = ax_f (am_j σ a) (fun q => q.1 = 0 ∧ am_ix j q.2.1 ∧ ax k_M_hasLeave 32 ls (.int (q.2.2 j.toNatClampNeg) :: st) σ Q) := rv_iald f_M_hasLeave_31 rfl
theorem f_M_hasLeave_32 : am_cd k_M_hasLeave 32 = some ((some .boolean), .iload_n 2, (0, 0, 0, 0, 0, .null)) := rfl
theorem s_M_hasLeave_32 {a0 a1 a3 a4 : Option Value} {st : List Value} {σ : am_H} {Q : Option Value → am_H → Prop} {x : Int32} : ax k_M_hasLeave 32 [a0, a1, some (.int x), a3, a4] st σ Q = ax k_M_hasLeave 33 [a0, a1, some (.int x), a3, a4] (.int x :: st) σ Q := ru_loc (q := (_, _)) f_M_hasLeave_32 rfl rfl rfl
theorem f_M_hasLeave_33 : am_cd k_M_hasLeave 33 = some ((some .boolean), .if_icmp .gt 11, (44, 0, 0, 0, 0, .null)) := rfl
theorem s_M_hasLeave_33 {ls : am_L} {st : List Value} {σ : am_H} {Q : Option Value → am_H → Prop} {x y : Int32} : ax k_M_hasLeave 33 ls (.int y :: .int x :: st) σ Q = (if y < x then ax k_M_hasLeave 44 ls st σ Q else ax k_M_hasLeave 36 ls st σ Q) := (ru_icmp f_M_hasLeave_33 rfl).trans (ru_i_gt _ _ _ _)
theorem f_M_hasLeave_36 : am_cd k_M_hasLeave 36 = some ((some .boolean), .aload_n 0, (0, 0, 0, 0, 0, .null)) := rfl
theorem s_M_hasLeave_36 {a1 a2 a3 a4 : Option Value} {st : List Value} {σ : am_H} {Q : Option Value → am_H → Prop} {x : Nat} : ax k_M_hasLeave 36 [some (.ref x), a1, a2, a3, a4] st σ Q = ax k_M_hasLeave 37 [some (.ref x), a1, a2, a3, a4] (.ref x :: st) σ Q := ru_loc (q := (_, _)) f_M_hasLeave_36 rfl rfl rfl
theorem f_M_hasLeave_37 : am_cd k_M_hasLeave 37 = some ((some .boolean), .getfield 57, (11, 22, 939, 0, 3, .null)) := rfl
theorem s_M_hasLeave_37 {ls : am_L} {st : List Value} {σ : am_H} {Q : Option Value → am_H → Prop} {a : Nat} : ax k_M_hasLeave 37 ls (.ref a :: st) σ Q = ax_f (am_fld σ a 11 22) (fun v => ax k_M_hasLeave 40 ls (v :: st) σ Q) := ru_getf f_M_hasLeave_37 rfl
theorem f_M_hasLeave_40 : am_cd k_M_hasLeave 40 = some ((some .boolean), .iload 4, (0, 0, 0, 0, 0, .null)) := rfl
theorem s_M_hasLeave_40 {a0 a1 a2 a3 : Option Value} {st : List Value} {σ : am_H} {Q : Option Value → am_H → Prop} {x : Int32} : ax k_M_hasLeave 40 [a0, a1, a2, a3, some (.int x)] st σ Q = ax k_M_hasLeave 42 [a0, a1, a2, a3, some (.int x)] (.int x :: st) σ Q := ru_loc (q := (_, _)) f_M_hasLeave_40 rfl rfl rfl
theorem f_M_hasLeave_42 : am_cd k_M_hasLeave 42 = some ((some .boolean), .baload, (0, 0, 0, 0, 0, .null)) := rfl
theorem s_M_hasLeave_42 {ls : am_L} {st : List Value} {σ : am_H} {Q : Option Value → am_H → Prop} {a : Nat} {j : Int32} : ax k_M_hasLeave 42 ls (.int j :: .ref a :: st) σ Q = ax_f (am_j σ a) (fun q => (q.1 = 1 ∨ q.1 = 2) ∧ am_ix j q.2.1 ∧ ax k_M_hasLeave 43 ls (.int (q.2.2 j.toNatClampNeg) :: st) σ Q) := rv_bald f_M_hasLeave_42 rfl
theorem f_M_hasLeave_43 : am_cd k_M_hasLeave 43 = some ((some .boolean), .istore_n 3, (0, 0, 0, 0, 0, .null)) := rfl
theorem s_M_hasLeave_43 {a0 a1 a2 a3 a4 : Option Value} {st : List Value} {σ : am_H} {Q : Option Value → am_H → Prop} {x : Int32} (hc : am_c2 a2 = false) : ax k_M_hasLeave 43 [a0, a1, a2, a3, a4] (.int x :: st) σ Q = ax k_M_hasLeave 44 [a0, a1, a2, some (.int x), a4] st σ Q := ru_istore_n f_M_hasLeave_43 (Nat.le_of_ble_eq_true rfl) (ru_st1 (Nat.le_of_ble_eq_true rfl) (am_clr_c2 hc rfl) rfl) rfl
theorem f_M_hasLeave_44 : am_cd k_M_hasLeave 44 = some ((some .boolean), .iinc 4 1, (0, 0, 0, 0, 0, .null)) := rfl
theorem s_M_hasLeave_44 {a0 a1 a2 a3 : Option Value} {st : List Value} {σ : am_H} {Q : Option Value → am_H → Prop} {x : Int32} (hc : am_c2 a3 = false) : ax k_M_hasLeave 44 [a0, a1, a2, a3, some (.int x)] st σ Q = ax k_M_hasLeave 47 [a0, a1, a2, a3, some (.int (x + 1))] st σ Q := ru_iinc f_M_hasLeave_44 rfl (Nat.le_of_ble_eq_true rfl) (by decide +kernel) (ru_st1 (Nat.le_of_ble_eq_true rfl) (am_clr_c2 hc rfl) rfl) rfl
theorem f_M_hasLeave_47 : am_cd k_M_hasLeave 47 = some ((some .boolean), .goto (-42), (5, 0, 0, 0, 0, .null)) := rfl
theorem s_M_hasLeave_47 {ls : am_L} {st : List Value} {σ : am_H} {Q : Option Value → am_H → Prop} : ax k_M_hasLeave 47 ls st σ Q = ax k_M_hasLeave 5 ls st σ Q := ru_goto f_M_hasLeave_47
theorem f_M_hasLeave_50 : am_cd k_M_hasLeave 50 = some ((some .boolean), .iload_n 3, (0, 0, 0, 0, 0, .null)) := rfl
theorem s_M_hasLeave_50 {a0 a1 a2 a4 : Option Value} {st : List Value} {σ : am_H} {Q : Option Value → am_H → Prop} {x : Int32} : ax k_M_hasLeave 50 [a0, a1, a2, some (.int x), a4] st σ Q = ax k_M_hasLeave 51 [a0, a1, a2, some (.int x), a4] (.int x :: st) σ Q := ru_loc (q := (_, _)) f_M_hasLeave_50 rfl rfl rfl
theorem f_M_hasLeave_51 : am_cd k_M_hasLeave 51 = some ((some .boolean), .ireturn, (0, 0, 0, 0, 0, .null)) := rfl
theorem s_M_hasLeave_51 {ls : am_L} {σ : am_H} {Q : Option Value → am_H → Prop} {v : Int32} : ax k_M_hasLeave 51 ls ([.int v]) σ Q = (am_nar .boolean v = true ∧ Q (some (.int v)) σ) := ru_iret f_M_hasLeave_51
theorem f_M_embargoed_0 : am_cd k_M_embargoed 0 = some ((some .int), .iconst 0, (0, 0, 0, 0, 0, .null)) := rfl
theorem s_M_embargoed_0 {ls : am_L} {st : List Value} {σ : am_H} {Q : Option Value → am_H → Prop} : ax k_M_embargoed 0 ls st σ Q = ax k_M_embargoed 1 ls (.int 0 :: st) σ Q := ru_iconst f_M_embargoed_0 (by decide +kernel) rfl
theorem f_M_embargoed_1 : am_cd k_M_embargoed 1 = some ((some .int), .istore_n 3, (0, 0, 0, 0, 0, .null)) := rfl
theorem s_M_embargoed_1 {a0 a1 a2 a3 a4 : Option Value} {st : List Value} {σ : am_H} {Q : Option Value → am_H → Prop} {x : Int32} (hc : am_c2 a2 = false) : ax k_M_embargoed 1 [a0, a1, a2, a3, a4] (.int x :: st) σ Q = ax k_M_embargoed 2 [a0, a1, a2, some (.int x), a4] st σ Q := ru_istore_n f_M_embargoed_1 (Nat.le_of_ble_eq_true rfl) (ru_st1 (Nat.le_of_ble_eq_true rfl) (am_clr_c2 hc rfl) rfl) rfl
theorem f_M_embargoed_2 : am_cd k_M_embargoed 2 = some ((some .int), .iconst 0, (0, 0, 0, 0, 0, .null)) := rfl
theorem s_M_embargoed_2 {ls : am_L} {st : List Value} {σ : am_H} {Q : Option Value → am_H → Prop} : ax k_M_embargoed 2 ls st σ Q = ax k_M_embargoed 3 ls (.int 0 :: st) σ Q := ru_iconst f_M_embargoed_2 (by decide +kernel) rfl
theorem f_M_embargoed_3 : am_cd k_M_embargoed 3 = some ((some .int), .istore 4, (0, 0, 0, 0, 0, .null)) := rfl
theorem s_M_embargoed_3 {a0 a1 a2 a3 a4 : Option Value} {st : List Value} {σ : am_H} {Q : Option Value → am_H → Prop} {x : Int32} (hc : am_c2 a3 = false) : ax k_M_embargoed 3 [a0, a1, a2, a3, a4] (.int x :: st) σ Q = ax k_M_embargoed 5 [a0, a1, a2, a3, some (.int x)] st σ Q := ru_istore f_M_embargoed_3 (Nat.le_of_ble_eq_true rfl) (ru_st1 (Nat.le_of_ble_eq_true rfl) (am_clr_c2 hc rfl) rfl) rfl
theorem f_M_embargoed_5 : am_cd k_M_embargoed 5 = some ((some .int), .iload 4, (0, 0, 0, 0, 0, .null)) := rfl
theorem s_M_embargoed_5 {a0 a1 a2 a3 : Option Value} {st : List Value} {σ : am_H} {Q : Option Value → am_H → Prop} {x : Int32} : ax k_M_embargoed 5 [a0, a1, a2, a3, some (.int x)] st σ Q = ax k_M_embargoed 7 [a0, a1, a2, a3, some (.int x)] (.int x :: st) σ Q := ru_loc (q := (_, _)) f_M_embargoed_5 rfl rfl rfl
theorem f_M_embargoed_7 : am_cd k_M_embargoed 7 = some ((some .int), .aload_n 0, (0, 0, 0, 0, 0, .null)) := rfl
theorem s_M_embargoed_7 {a1 a2 a3 a4 : Option Value} {st : List Value} {σ : am_H} {Q : Option Value → am_H → Prop} {x : Nat} : ax k_M_embargoed 7 [some (.ref x), a1, a2, a3, a4] st σ Q = ax k_M_embargoed 8 [some (.ref x), a1, a2, a3, a4] (.ref x :: st) σ Q := ru_loc (q := (_, _)) f_M_embargoed_7 rfl rfl rfl
theorem f_M_embargoed_8 : am_cd k_M_embargoed 8 = some ((some .int), .getfield 222, (11, 23, 940, 0, 0, .null)) := rfl
theorem s_M_embargoed_8 {ls : am_L} {st : List Value} {σ : am_H} {Q : Option Value → am_H → Prop} {a : Nat} : ax k_M_embargoed 8 ls (.ref a :: st) σ Q = ax_f (am_fld σ a 11 23) (fun v => ax k_M_embargoed 11 ls (v :: st) σ Q) := ru_getf f_M_embargoed_8 rfl
theorem f_M_embargoed_11 : am_cd k_M_embargoed 11 = some ((some .int), .if_icmp .ge 39, (50, 0, 0, 0, 0, .null)) := rfl
theorem s_M_embargoed_11 {ls : am_L} {st : List Value} {σ : am_H} {Q : Option Value → am_H → Prop} {x y : Int32} : ax k_M_embargoed 11 ls (.int y :: .int x :: st) σ Q = (if x < y then ax k_M_embargoed 14 ls st σ Q else ax k_M_embargoed 50 ls st σ Q) := (ru_icmp f_M_embargoed_11 rfl).trans (ru_i_ge _ _ _ _)
theorem f_M_embargoed_14 : am_cd k_M_embargoed 14 = some ((some .int), .aload_n 0, (0, 0, 0, 0, 0, .null)) := rfl
theorem s_M_embargoed_14 {a1 a2 a3 a4 : Option Value} {st : List Value} {σ : am_H} {Q : Option Value → am_H → Prop} {x : Nat} : ax k_M_embargoed 14 [some (.ref x), a1, a2, a3, a4] st σ Q = ax k_M_embargoed 15 [some (.ref x), a1, a2, a3, a4] (.ref x :: st) σ Q := ru_loc (q := (_, _)) f_M_embargoed_14 rfl rfl rfl
theorem f_M_embargoed_15 : am_cd k_M_embargoed 15 = some ((some .int), .getfield 60, (11, 24, 941, 0, 3, .null)) := rfl
theorem s_M_embargoed_15 {ls : am_L} {st : List Value} {σ : am_H} {Q : Option Value → am_H → Prop} {a : Nat} : ax k_M_embargoed 15 ls (.ref a :: st) σ Q = ax_f (am_fld σ a 11 24) (fun v => ax k_M_embargoed 18 ls (v :: st) σ Q) := ru_getf f_M_embargoed_15 rfl
theorem f_M_embargoed_18 : am_cd k_M_embargoed 18 = some ((some .int), .iload 4, (0, 0, 0, 0, 0, .null)) := rfl
theorem s_M_embargoed_18 {a0 a1 a2 a3 : Option Value} {st : List Value} {σ : am_H} {Q : Option Value → am_H → Prop} {x : Int32} : ax k_M_embargoed 18 [a0, a1, a2, a3, some (.int x)] st σ Q = ax k_M_embargoed 20 [a0, a1, a2, a3, some (.int x)] (.int x :: st) σ Q := ru_loc (q := (_, _)) f_M_embargoed_18 rfl rfl rfl
theorem f_M_embargoed_20 : am_cd k_M_embargoed 20 = some ((some .int), .iaload, (0, 0, 0, 0, 0, .null)) := rfl
theorem s_M_embargoed_20 {ls : am_L} {st : List Value} {σ : am_H} {Q : Option Value → am_H → Prop} {a : Nat} {j : Int32} : ax k_M_embargoed 20 ls (.int j :: .ref a :: st) σ Q = ax_f (am_j σ a) (fun q => q.1 = 0 ∧ am_ix j q.2.1 ∧ ax k_M_embargoed 21 ls (.int (q.2.2 j.toNatClampNeg) :: st) σ Q) := rv_iald f_M_embargoed_20 rfl
theorem f_M_embargoed_21 : am_cd k_M_embargoed 21 = some ((some .int), .iload_n 1, (0, 0, 0, 0, 0, .null)) := rfl
theorem s_M_embargoed_21 {a0 a2 a3 a4 : Option Value} {st : List Value} {σ : am_H} {Q : Option Value → am_H → Prop} {x : Int32} : ax k_M_embargoed 21 [a0, some (.int x), a2, a3, a4] st σ Q = ax k_M_embargoed 22 [a0, some (.int x), a2, a3, a4] (.int x :: st) σ Q := ru_loc (q := (_, _)) f_M_embargoed_21 rfl rfl rfl
theorem f_M_embargoed_22 : am_cd k_M_embargoed 22 = some ((some .int), .if_icmp .ne 22, (44, 0, 0, 0, 0, .null)) := rfl
theorem s_M_embargoed_22 {ls : am_L} {st : List Value} {σ : am_H} {Q : Option Value → am_H → Prop} {x y : Int32} : ax k_M_embargoed 22 ls (.int y :: .int x :: st) σ Q = (if x = y then ax k_M_embargoed 25 ls st σ Q else ax k_M_embargoed 44 ls st σ Q) := (ru_icmp f_M_embargoed_22 rfl).trans (ru_i_ne _ _ _ _)
theorem f_M_embargoed_25 : am_cd k_M_embargoed 25 = some ((some .int), .aload_n 0, (0, 0, 0, 0, 0, .null)) := rfl
theorem s_M_embargoed_25 {a1 a2 a3 a4 : Option Value} {st : List Value} {σ : am_H} {Q : Option Value → am_H → Prop} {x : Nat} : ax k_M_embargoed 25 [some (.ref x), a1, a2, a3, a4] st σ Q = ax k_M_embargoed 26 [some (.ref x), a1, a2, a3, a4] (.ref x :: st) σ Q := ru_loc (q := (_, _)) f_M_embargoed_25 rfl rfl rfl
theorem f_M_embargoed_26 : am_cd k_M_embargoed 26 = some ((some .int), .getfield 63, (11, 25, 942, 0, 3, .null)) := rfl
theorem s_M_embargoed_26 {ls : am_L} {st : List Value} {σ : am_H} {Q : Option Value → am_H → Prop} {a : Nat} : ax k_M_embargoed 26 ls (.ref a :: st) σ Q = ax_f (am_fld σ a 11 25) (fun v => ax k_M_embargoed 29 ls (v :: st) σ Q) := ru_getf f_M_embargoed_26 rfl
theorem f_M_embargoed_29 : am_cd k_M_embargoed 29 = some ((some .int), .iload 4, (0, 0, 0, 0, 0, .null)) := rfl
theorem s_M_embargoed_29 {a0 a1 a2 a3 : Option Value} {st : List Value} {σ : am_H} {Q : Option Value → am_H → Prop} {x : Int32} : ax k_M_embargoed 29 [a0, a1, a2, a3, some (.int x)] st σ Q = ax k_M_embargoed 31 [a0, a1, a2, a3, some (.int x)] (.int x :: st) σ Q := ru_loc (q := (_, _)) f_M_embargoed_29 rfl rfl rfl
theorem f_M_embargoed_31 : am_cd k_M_embargoed 31 = some ((some .int), .iaload, (0, 0, 0, 0, 0, .null)) := rfl
theorem s_M_embargoed_31 {ls : am_L} {st : List Value} {σ : am_H} {Q : Option Value → am_H → Prop} {a : Nat} {j : Int32} : ax k_M_embargoed 31 ls (.int j :: .ref a :: st) σ Q = ax_f (am_j σ a) (fun q => q.1 = 0 ∧ am_ix j q.2.1 ∧ ax k_M_embargoed 32 ls (.int (q.2.2 j.toNatClampNeg) :: st) σ Q) := rv_iald f_M_embargoed_31 rfl
theorem f_M_embargoed_32 : am_cd k_M_embargoed 32 = some ((some .int), .iload_n 2, (0, 0, 0, 0, 0, .null)) := rfl
theorem s_M_embargoed_32 {a0 a1 a3 a4 : Option Value} {st : List Value} {σ : am_H} {Q : Option Value → am_H → Prop} {x : Int32} : ax k_M_embargoed 32 [a0, a1, some (.int x), a3, a4] st σ Q = ax k_M_embargoed 33 [a0, a1, some (.int x), a3, a4] (.int x :: st) σ Q := ru_loc (q := (_, _)) f_M_embargoed_32 rfl rfl rfl
theorem f_M_embargoed_33 : am_cd k_M_embargoed 33 = some ((some .int), .if_icmp .gt 11, (44, 0, 0, 0, 0, .null)) := rfl
theorem s_M_embargoed_33 {ls : am_L} {st : List Value} {σ : am_H} {Q : Option Value → am_H → Prop} {x y : Int32} : ax k_M_embargoed 33 ls (.int y :: .int x :: st) σ Q = (if y < x then ax k_M_embargoed 44 ls st σ Q else ax k_M_embargoed 36 ls st σ Q) := (ru_icmp f_M_embargoed_33 rfl).trans (ru_i_gt _ _ _ _)
theorem f_M_embargoed_36 : am_cd k_M_embargoed 36 = some ((some .int), .aload_n 0, (0, 0, 0, 0, 0, .null)) := rfl
theorem s_M_embargoed_36 {a1 a2 a3 a4 : Option Value} {st : List Value} {σ : am_H} {Q : Option Value → am_H → Prop} {x : Nat} : ax k_M_embargoed 36 [some (.ref x), a1, a2, a3, a4] st σ Q = ax k_M_embargoed 37 [some (.ref x), a1, a2, a3, a4] (.ref x :: st) σ Q := ru_loc (q := (_, _)) f_M_embargoed_36 rfl rfl rfl
theorem f_M_embargoed_37 : am_cd k_M_embargoed 37 = some ((some .int), .getfield 66, (11, 26, 943, 0, 3, .null)) := rfl
theorem s_M_embargoed_37 {ls : am_L} {st : List Value} {σ : am_H} {Q : Option Value → am_H → Prop} {a : Nat} : ax k_M_embargoed 37 ls (.ref a :: st) σ Q = ax_f (am_fld σ a 11 26) (fun v => ax k_M_embargoed 40 ls (v :: st) σ Q) := ru_getf f_M_embargoed_37 rfl
theorem f_M_embargoed_40 : am_cd k_M_embargoed 40 = some ((some .int), .iload 4, (0, 0, 0, 0, 0, .null)) := rfl
theorem s_M_embargoed_40 {a0 a1 a2 a3 : Option Value} {st : List Value} {σ : am_H} {Q : Option Value → am_H → Prop} {x : Int32} : ax k_M_embargoed 40 [a0, a1, a2, a3, some (.int x)] st σ Q = ax k_M_embargoed 42 [a0, a1, a2, a3, some (.int x)] (.int x :: st) σ Q := ru_loc (q := (_, _)) f_M_embargoed_40 rfl rfl rfl
theorem f_M_embargoed_42 : am_cd k_M_embargoed 42 = some ((some .int), .iaload, (0, 0, 0, 0, 0, .null)) := rfl
theorem s_M_embargoed_42 {ls : am_L} {st : List Value} {σ : am_H} {Q : Option Value → am_H → Prop} {a : Nat} {j : Int32} : ax k_M_embargoed 42 ls (.int j :: .ref a :: st) σ Q = ax_f (am_j σ a) (fun q => q.1 = 0 ∧ am_ix j q.2.1 ∧ ax k_M_embargoed 43 ls (.int (q.2.2 j.toNatClampNeg) :: st) σ Q) := rv_iald f_M_embargoed_42 rfl
theorem f_M_embargoed_43 : am_cd k_M_embargoed 43 = some ((some .int), .istore_n 3, (0, 0, 0, 0, 0, .null)) := rfl
theorem s_M_embargoed_43 {a0 a1 a2 a3 a4 : Option Value} {st : List Value} {σ : am_H} {Q : Option Value → am_H → Prop} {x : Int32} (hc : am_c2 a2 = false) : ax k_M_embargoed 43 [a0, a1, a2, a3, a4] (.int x :: st) σ Q = ax k_M_embargoed 44 [a0, a1, a2, some (.int x), a4] st σ Q := ru_istore_n f_M_embargoed_43 (Nat.le_of_ble_eq_true rfl) (ru_st1 (Nat.le_of_ble_eq_true rfl) (am_clr_c2 hc rfl) rfl) rfl
theorem f_M_embargoed_44 : am_cd k_M_embargoed 44 = some ((some .int), .iinc 4 1, (0, 0, 0, 0, 0, .null)) := rfl
theorem s_M_embargoed_44 {a0 a1 a2 a3 : Option Value} {st : List Value} {σ : am_H} {Q : Option Value → am_H → Prop} {x : Int32} (hc : am_c2 a3 = false) : ax k_M_embargoed 44 [a0, a1, a2, a3, some (.int x)] st σ Q = ax k_M_embargoed 47 [a0, a1, a2, a3, some (.int (x + 1))] st σ Q := ru_iinc f_M_embargoed_44 rfl (Nat.le_of_ble_eq_true rfl) (by decide +kernel) (ru_st1 (Nat.le_of_ble_eq_true rfl) (am_clr_c2 hc rfl) rfl) rfl
theorem f_M_embargoed_47 : am_cd k_M_embargoed 47 = some ((some .int), .goto (-42), (5, 0, 0, 0, 0, .null)) := rfl
theorem s_M_embargoed_47 {ls : am_L} {st : List Value} {σ : am_H} {Q : Option Value → am_H → Prop} : ax k_M_embargoed 47 ls st σ Q = ax k_M_embargoed 5 ls st σ Q := ru_goto f_M_embargoed_47
theorem f_M_embargoed_50 : am_cd k_M_embargoed 50 = some ((some .int), .iload_n 3, (0, 0, 0, 0, 0, .null)) := rfl
theorem s_M_embargoed_50 {a0 a1 a2 a4 : Option Value} {st : List Value} {σ : am_H} {Q : Option Value → am_H → Prop} {x : Int32} : ax k_M_embargoed 50 [a0, a1, a2, some (.int x), a4] st σ Q = ax k_M_embargoed 51 [a0, a1, a2, some (.int x), a4] (.int x :: st) σ Q := ru_loc (q := (_, _)) f_M_embargoed_50 rfl rfl rfl
theorem f_M_embargoed_51 : am_cd k_M_embargoed 51 = some ((some .int), .ireturn, (0, 0, 0, 0, 0, .null)) := rfl
theorem s_M_embargoed_51 {ls : am_L} {σ : am_H} {Q : Option Value → am_H → Prop} {v : Int32} : ax k_M_embargoed 51 ls [.int v] σ Q = Q (some (.int v)) σ := ru_iretI f_M_embargoed_51
theorem f_M_known_0 : am_cd k_M_known 0 = some ((some .int), .aload_n 0, (0, 0, 0, 0, 0, .null)) := rfl
theorem s_M_known_0 {a1 a2 a3 : Option Value} {st : List Value} {σ : am_H} {Q : Option Value → am_H → Prop} {x : Nat} : ax k_M_known 0 [some (.ref x), a1, a2, a3] st σ Q = ax k_M_known 1 [some (.ref x), a1, a2, a3] (.ref x :: st) σ Q := ru_loc (q := (_, _)) f_M_known_0 rfl rfl rfl
theorem f_M_known_1 : am_cd k_M_known 1 = some ((some .int), .iload_n 2, (0, 0, 0, 0, 0, .null)) := rfl
theorem s_M_known_1 {a0 a1 a3 : Option Value} {st : List Value} {σ : am_H} {Q : Option Value → am_H → Prop} {x : Int32} : ax k_M_known 1 [a0, a1, some (.int x), a3] st σ Q = ax k_M_known 2 [a0, a1, some (.int x), a3] (.int x :: st) σ Q := ru_loc (q := (_, _)) f_M_known_1 rfl rfl rfl
theorem f_M_known_2 : am_cd k_M_known 2 = some ((some .int), .invokevirtual 186, (116, 1, 1141, 0, 11, .null)) := rfl
theorem s_M_known_2 {ls : am_L} {st : List Value} {σ : am_H} {Q : Option Value → am_H → Prop} {p0 : Int32} {b : Nat} (hi : am_is σ b 11) (h8 : am_s8 st) : ax k_M_known 2 ls (.int p0 :: .ref b :: st) σ Q = ax k_M_isPast 0 [some (.ref b), some (.int p0)] [] σ (ax_k k_M_known 5 ls st Q) := ru_vir (M' := rk_M_isPast) f_M_known_2 rfl rfl rfl rfl hi h8 rfl rfl rfl rfl rfl
theorem f_M_known_5 : am_cd k_M_known 5 = some ((some .int), .ifCond .ne 5, (10, 0, 0, 0, 0, .null)) := rfl
theorem s_M_known_5 {ls : am_L} {st : List Value} {σ : am_H} {Q : Option Value → am_H → Prop} {x : Int32} : ax k_M_known 5 ls (.int x :: st) σ Q = (if x = 0 then ax k_M_known 8 ls st σ Q else ax k_M_known 10 ls st σ Q) := (ru_if f_M_known_5 rfl).trans (ru_i_ne _ _ _ _)
theorem f_M_known_8 : am_cd k_M_known 8 = some ((some .int), .iconst (-1), (0, 0, 0, 0, 0, .null)) := rfl
theorem s_M_known_8 {ls : am_L} {st : List Value} {σ : am_H} {Q : Option Value → am_H → Prop} : ax k_M_known 8 ls st σ Q = ax k_M_known 9 ls (.int (-1) :: st) σ Q := ru_iconst f_M_known_8 (by decide +kernel) rfl
theorem f_M_known_9 : am_cd k_M_known 9 = some ((some .int), .ireturn, (0, 0, 0, 0, 0, .null)) := rfl
theorem s_M_known_9 {ls : am_L} {σ : am_H} {Q : Option Value → am_H → Prop} {v : Int32} : ax k_M_known 9 ls [.int v] σ Q = Q (some (.int v)) σ := ru_iretI f_M_known_9
theorem f_M_known_10 : am_cd k_M_known 10 = some ((some .int), .iload_n 3, (0, 0, 0, 0, 0, .null)) := rfl
theorem s_M_known_10 {a0 a1 a2 : Option Value} {st : List Value} {σ : am_H} {Q : Option Value → am_H → Prop} {x : Int32} : ax k_M_known 10 [a0, a1, a2, some (.int x)] st σ Q = ax k_M_known 11 [a0, a1, a2, some (.int x)] (.int x :: st) σ Q := ru_loc (q := (_, _)) f_M_known_10 rfl rfl rfl
theorem f_M_known_11 : am_cd k_M_known 11 = some ((some .int), .ifCond .eq 32, (43, 0, 0, 0, 0, .null)) := rfl
theorem s_M_known_11 {ls : am_L} {st : List Value} {σ : am_H} {Q : Option Value → am_H → Prop} {x : Int32} : ax k_M_known 11 ls (.int x :: st) σ Q = (if x = 0 then ax k_M_known 43 ls st σ Q else ax k_M_known 14 ls st σ Q) := (ru_if f_M_known_11 rfl).trans (ru_i_eq _ _ _ _)
theorem f_M_known_14 : am_cd k_M_known 14 = some ((some .int), .iload_n 1, (0, 0, 0, 0, 0, .null)) := rfl
theorem s_M_known_14 {a0 a2 a3 : Option Value} {st : List Value} {σ : am_H} {Q : Option Value → am_H → Prop} {x : Int32} : ax k_M_known 14 [a0, some (.int x), a2, a3] st σ Q = ax k_M_known 15 [a0, some (.int x), a2, a3] (.int x :: st) σ Q := ru_loc (q := (_, _)) f_M_known_14 rfl rfl rfl
theorem f_M_known_15 : am_cd k_M_known 15 = some ((some .int), .iconst 0, (0, 0, 0, 0, 0, .null)) := rfl
theorem s_M_known_15 {ls : am_L} {st : List Value} {σ : am_H} {Q : Option Value → am_H → Prop} : ax k_M_known 15 ls st σ Q = ax k_M_known 16 ls (.int 0 :: st) σ Q := ru_iconst f_M_known_15 (by decide +kernel) rfl
theorem f_M_known_16 : am_cd k_M_known 16 = some ((some .int), .bipush 15, (0, 0, 0, 0, 0, .null)) := rfl
theorem s_M_known_16 {ls : am_L} {st : List Value} {σ : am_H} {Q : Option Value → am_H → Prop} : ax k_M_known 16 ls st σ Q = ax k_M_known 18 ls (.int 15 :: st) σ Q := ru_bipush f_M_known_16 (by decide +kernel) rfl
theorem f_M_known_18 : am_cd k_M_known 18 = some ((some .int), .invokestatic 154, (113, 3, 1110, 0, 11, .null)) := rfl
theorem s_M_known_18 {ls : am_L} {st : List Value} {σ : am_H} {Q : Option Value → am_H → Prop} {p0 : Int32} {p1 : Int32} {p2 : Int32} (h8 : am_s8 st) : ax k_M_known 18 ls (.int p2 :: .int p1 :: .int p0 :: st) σ Q = ax k_M_isIn 0 [some (.int p0), some (.int p1), some (.int p2)] [] σ (ax_k k_M_known 21 ls st Q) := ru_sta (M' := rk_M_isIn) f_M_known_18 rfl (by decide) rfl (by simp) rfl h8 rfl rfl rfl rfl rfl
theorem f_M_known_21 : am_cd k_M_known 21 = some ((some .int), .ifCond .eq 20, (41, 0, 0, 0, 0, .null)) := rfl
theorem s_M_known_21 {ls : am_L} {st : List Value} {σ : am_H} {Q : Option Value → am_H → Prop} {x : Int32} : ax k_M_known 21 ls (.int x :: st) σ Q = (if x = 0 then ax k_M_known 41 ls st σ Q else ax k_M_known 24 ls st σ Q) := (ru_if f_M_known_21 rfl).trans (ru_i_eq _ _ _ _)
theorem f_M_known_24 : am_cd k_M_known 24 = some ((some .int), .aload_n 0, (0, 0, 0, 0, 0, .null)) := rfl
theorem s_M_known_24 {a1 a2 a3 : Option Value} {st : List Value} {σ : am_H} {Q : Option Value → am_H → Prop} {x : Nat} : ax k_M_known 24 [some (.ref x), a1, a2, a3] st σ Q = ax k_M_known 25 [some (.ref x), a1, a2, a3] (.ref x :: st) σ Q := ru_loc (q := (_, _)) f_M_known_24 rfl rfl rfl
theorem f_M_known_25 : am_cd k_M_known 25 = some ((some .int), .iload_n 1, (0, 0, 0, 0, 0, .null)) := rfl
theorem s_M_known_25 {a0 a2 a3 : Option Value} {st : List Value} {σ : am_H} {Q : Option Value → am_H → Prop} {x : Int32} : ax k_M_known 25 [a0, some (.int x), a2, a3] st σ Q = ax k_M_known 26 [a0, some (.int x), a2, a3] (.int x :: st) σ Q := ru_loc (q := (_, _)) f_M_known_25 rfl rfl rfl
theorem f_M_known_26 : am_cd k_M_known 26 = some ((some .int), .iload_n 2, (0, 0, 0, 0, 0, .null)) := rfl
theorem s_M_known_26 {a0 a1 a3 : Option Value} {st : List Value} {σ : am_H} {Q : Option Value → am_H → Prop} {x : Int32} : ax k_M_known 26 [a0, a1, some (.int x), a3] st σ Q = ax k_M_known 27 [a0, a1, some (.int x), a3] (.int x :: st) σ Q := ru_loc (q := (_, _)) f_M_known_26 rfl rfl rfl
theorem f_M_known_27 : am_cd k_M_known 27 = some ((some .int), .invokevirtual 225, (140, 2, 1219, 0, 11, .null)) := rfl
theorem s_M_known_27 {ls : am_L} {st : List Value} {σ : am_H} {Q : Option Value → am_H → Prop} {p0 : Int32} {p1 : Int32} {b : Nat} (hi : am_is σ b 11) (h8 : am_s8 st) : ax k_M_known 27 ls (.int p1 :: .int p0 :: .ref b :: st) σ Q = ax k_M_hasLeave 0 [some (.ref b), some (.int p0), some (.int p1), none, none] [] σ (ax_k k_M_known 30 ls st Q) := ru_vir (M' := rk_M_hasLeave) f_M_known_27 rfl rfl rfl rfl hi h8 rfl rfl rfl rfl rfl
theorem f_M_known_30 : am_cd k_M_known 30 = some ((some .int), .ifCond .eq 7, (37, 0, 0, 0, 0, .null)) := rfl
theorem s_M_known_30 {ls : am_L} {st : List Value} {σ : am_H} {Q : Option Value → am_H → Prop} {x : Int32} : ax k_M_known 30 ls (.int x :: st) σ Q = (if x = 0 then ax k_M_known 37 ls st σ Q else ax k_M_known 33 ls st σ Q) := (ru_if f_M_known_30 rfl).trans (ru_i_eq _ _ _ _)
theorem f_M_known_33 : am_cd k_M_known 33 = some ((some .int), .iconst 1, (0, 0, 0, 0, 0, .null)) := rfl
theorem s_M_known_33 {ls : am_L} {st : List Value} {σ : am_H} {Q : Option Value → am_H → Prop} : ax k_M_known 33 ls st σ Q = ax k_M_known 34 ls (.int 1 :: st) σ Q := ru_iconst f_M_known_33 (by decide +kernel) rfl
theorem f_M_known_34 : am_cd k_M_known 34 = some ((some .int), .goto 8, (42, 0, 0, 0, 0, .null)) := rfl
theorem s_M_known_34 {ls : am_L} {st : List Value} {σ : am_H} {Q : Option Value → am_H → Prop} : ax k_M_known 34 ls st σ Q = ax k_M_known 42 ls st σ Q := ru_goto f_M_known_34
theorem f_M_known_37 : am_cd k_M_known 37 = some ((some .int), .iconst 0, (0, 0, 0, 0, 0, .null)) := rfl
theorem s_M_known_37 {ls : am_L} {st : List Value} {σ : am_H} {Q : Option Value → am_H → Prop} : ax k_M_known 37 ls st σ Q = ax k_M_known 38 ls (.int 0 :: st) σ Q := ru_iconst f_M_known_37 (by decide +kernel) rfl
theorem f_M_known_38 : am_cd k_M_known 38 = some ((some .int), .goto 4, (42, 0, 0, 0, 0, .null)) := rfl
theorem s_M_known_38 {ls : am_L} {st : List Value} {σ : am_H} {Q : Option Value → am_H → Prop} : ax k_M_known 38 ls st σ Q = ax k_M_known 42 ls st σ Q := ru_goto f_M_known_38
theorem f_M_known_41 : am_cd k_M_known 41 = some ((some .int), .iconst (-1), (0, 0, 0, 0, 0, .null)) := rfl
theorem s_M_known_41 {ls : am_L} {st : List Value} {σ : am_H} {Q : Option Value → am_H → Prop} : ax k_M_known 41 ls st σ Q = ax k_M_known 42 ls (.int (-1) :: st) σ Q := ru_iconst f_M_known_41 (by decide +kernel) rfl
theorem f_M_known_42 : am_cd k_M_known 42 = some ((some .int), .ireturn, (0, 0, 0, 0, 0, .null)) := rfl
theorem s_M_known_42 {ls : am_L} {σ : am_H} {Q : Option Value → am_H → Prop} {v : Int32} : ax k_M_known 42 ls [.int v] σ Q = Q (some (.int v)) σ := ru_iretI f_M_known_42
theorem f_M_known_43 : am_cd k_M_known 43 = some ((some .int), .aload_n 0, (0, 0, 0, 0, 0, .null)) := rfl
theorem s_M_known_43 {a1 a2 a3 : Option Value} {st : List Value} {σ : am_H} {Q : Option Value → am_H → Prop} {x : Nat} : ax k_M_known 43 [some (.ref x), a1, a2, a3] st σ Q = ax k_M_known 44 [some (.ref x), a1, a2, a3] (.ref x :: st) σ Q := ru_loc (q := (_, _)) f_M_known_43 rfl rfl rfl
theorem f_M_known_44 : am_cd k_M_known 44 = some ((some .int), .iload_n 1, (0, 0, 0, 0, 0, .null)) := rfl
theorem s_M_known_44 {a0 a2 a3 : Option Value} {st : List Value} {σ : am_H} {Q : Option Value → am_H → Prop} {x : Int32} : ax k_M_known 44 [a0, some (.int x), a2, a3] st σ Q = ax k_M_known 45 [a0, some (.int x), a2, a3] (.int x :: st) σ Q := ru_loc (q := (_, _)) f_M_known_44 rfl rfl rfl
theorem f_M_known_45 : am_cd k_M_known 45 = some ((some .int), .invokevirtual 195, (115, 1, 1155, 0, 11, .null)) := rfl
theorem s_M_known_45 {ls : am_L} {st : List Value} {σ : am_H} {Q : Option Value → am_H → Prop} {p0 : Int32} {b : Nat} (hi : am_is σ b 11) (h8 : am_s8 st) : ax k_M_known 45 ls (.int p0 :: .ref b :: st) σ Q = ax k_M_isPicture 0 [some (.ref b), some (.int p0)] [] σ (ax_k k_M_known 48 ls st Q) := ru_vir (M' := rk_M_isPicture) f_M_known_45 rfl rfl rfl rfl hi h8 rfl rfl rfl rfl rfl
theorem f_M_known_48 : am_cd k_M_known 48 = some ((some .int), .ifCond .eq 12, (60, 0, 0, 0, 0, .null)) := rfl
theorem s_M_known_48 {ls : am_L} {st : List Value} {σ : am_H} {Q : Option Value → am_H → Prop} {x : Int32} : ax k_M_known 48 ls (.int x :: st) σ Q = (if x = 0 then ax k_M_known 60 ls st σ Q else ax k_M_known 51 ls st σ Q) := (ru_if f_M_known_48 rfl).trans (ru_i_eq _ _ _ _)
theorem f_M_known_51 : am_cd k_M_known 51 = some ((some .int), .aload_n 0, (0, 0, 0, 0, 0, .null)) := rfl
theorem s_M_known_51 {a1 a2 a3 : Option Value} {st : List Value} {σ : am_H} {Q : Option Value → am_H → Prop} {x : Nat} : ax k_M_known 51 [some (.ref x), a1, a2, a3] st σ Q = ax k_M_known 52 [some (.ref x), a1, a2, a3] (.ref x :: st) σ Q := ru_loc (q := (_, _)) f_M_known_51 rfl rfl rfl
theorem f_M_known_52 : am_cd k_M_known 52 = some ((some .int), .iload_n 1, (0, 0, 0, 0, 0, .null)) := rfl
theorem s_M_known_52 {a0 a2 a3 : Option Value} {st : List Value} {σ : am_H} {Q : Option Value → am_H → Prop} {x : Int32} : ax k_M_known 52 [a0, some (.int x), a2, a3] st σ Q = ax k_M_known 53 [a0, some (.int x), a2, a3] (.int x :: st) σ Q := ru_loc (q := (_, _)) f_M_known_52 rfl rfl rfl
theorem f_M_known_53 : am_cd k_M_known 53 = some ((some .int), .iload_n 2, (0, 0, 0, 0, 0, .null)) := rfl
theorem s_M_known_53 {a0 a1 a3 : Option Value} {st : List Value} {σ : am_H} {Q : Option Value → am_H → Prop} {x : Int32} : ax k_M_known 53 [a0, a1, some (.int x), a3] st σ Q = ax k_M_known 54 [a0, a1, some (.int x), a3] (.int x :: st) σ Q := ru_loc (q := (_, _)) f_M_known_53 rfl rfl rfl
theorem f_M_known_54 : am_cd k_M_known 54 = some ((some .int), .invokevirtual 229, (141, 2, 1223, 0, 11, .null)) := rfl
theorem s_M_known_54 {ls : am_L} {st : List Value} {σ : am_H} {Q : Option Value → am_H → Prop} {p0 : Int32} {p1 : Int32} {b : Nat} (hi : am_is σ b 11) (h8 : am_s8 st) : ax k_M_known 54 ls (.int p1 :: .int p0 :: .ref b :: st) σ Q = ax k_M_embargoed 0 [some (.ref b), some (.int p0), some (.int p1), none, none] [] σ (ax_k k_M_known 57 ls st Q) := ru_vir (M' := rk_M_embargoed) f_M_known_54 rfl rfl rfl rfl hi h8 rfl rfl rfl rfl rfl
theorem f_M_known_57 : am_cd k_M_known 57 = some ((some .int), .goto 4, (61, 0, 0, 0, 0, .null)) := rfl
theorem s_M_known_57 {ls : am_L} {st : List Value} {σ : am_H} {Q : Option Value → am_H → Prop} : ax k_M_known 57 ls st σ Q = ax k_M_known 61 ls st σ Q := ru_goto f_M_known_57
theorem f_M_known_60 : am_cd k_M_known 60 = some ((some .int), .iconst (-1), (0, 0, 0, 0, 0, .null)) := rfl
theorem s_M_known_60 {ls : am_L} {st : List Value} {σ : am_H} {Q : Option Value → am_H → Prop} : ax k_M_known 60 ls st σ Q = ax k_M_known 61 ls (.int (-1) :: st) σ Q := ru_iconst f_M_known_60 (by decide +kernel) rfl
theorem f_M_known_61 : am_cd k_M_known 61 = some ((some .int), .ireturn, (0, 0, 0, 0, 0, .null)) := rfl
theorem s_M_known_61 {ls : am_L} {σ : am_H} {Q : Option Value → am_H → Prop} {v : Int32} : ax k_M_known 61 ls [.int v] σ Q = Q (some (.int v)) σ := ru_iretI f_M_known_61
theorem f_M_four_0 : am_cd k_M_four 0 = some (none, .bipush 24, (0, 0, 0, 0, 0, .null)) := rfl
theorem s_M_four_0 {ls : am_L} {st : List Value} {σ : am_H} {Q : Option Value → am_H → Prop} : ax k_M_four 0 ls st σ Q = ax k_M_four 2 ls (.int 24 :: st) σ Q := ru_bipush f_M_four_0 (by decide +kernel) rfl
theorem f_M_four_2 : am_cd k_M_four 2 = some (none, .istore_n 2, (0, 0, 0, 0, 0, .null)) := rfl
theorem s_M_four_2 {a0 a1 a2 : Option Value} {st : List Value} {σ : am_H} {Q : Option Value → am_H → Prop} {x : Int32} (hc : am_c2 a1 = false) : ax k_M_four 2 [a0, a1, a2] (.int x :: st) σ Q = ax k_M_four 3 [a0, a1, some (.int x)] st σ Q := ru_istore_n f_M_four_2 (Nat.le_of_ble_eq_true rfl) (ru_st1 (Nat.le_of_ble_eq_true rfl) (am_clr_c2 hc rfl) rfl) rfl
theorem f_M_four_3 : am_cd k_M_four 3 = some (none, .iload_n 2, (0, 0, 0, 0, 0, .null)) := rfl
theorem s_M_four_3 {a0 a1 : Option Value} {st : List Value} {σ : am_H} {Q : Option Value → am_H → Prop} {x : Int32} : ax k_M_four 3 [a0, a1, some (.int x)] st σ Q = ax k_M_four 4 [a0, a1, some (.int x)] (.int x :: st) σ Q := ru_loc (q := (_, _)) f_M_four_3 rfl rfl rfl
theorem f_M_four_4 : am_cd k_M_four 4 = some (none, .ifCond .lt 35, (39, 0, 0, 0, 0, .null)) := rfl
theorem s_M_four_4 {ls : am_L} {st : List Value} {σ : am_H} {Q : Option Value → am_H → Prop} {x : Int32} : ax k_M_four 4 ls (.int x :: st) σ Q = (if x < 0 then ax k_M_four 39 ls st σ Q else ax k_M_four 7 ls st σ Q) := (ru_if f_M_four_4 rfl).trans (ru_i_lt _ _ _ _)
theorem f_M_four_7 : am_cd k_M_four 7 = some (none, .aload_n 0, (0, 0, 0, 0, 0, .null)) := rfl
theorem s_M_four_7 {a1 a2 : Option Value} {st : List Value} {σ : am_H} {Q : Option Value → am_H → Prop} {x : Nat} : ax k_M_four 7 [some (.ref x), a1, a2] st σ Q = ax k_M_four 8 [some (.ref x), a1, a2] (.ref x :: st) σ Q := ru_loc (q := (_, _)) f_M_four_7 rfl rfl rfl
theorem f_M_four_8 : am_cd k_M_four 8 = some (none, .getfield 72, (11, 28, 945, 0, 3, .null)) := rfl
theorem s_M_four_8 {ls : am_L} {st : List Value} {σ : am_H} {Q : Option Value → am_H → Prop} {a : Nat} : ax k_M_four 8 ls (.ref a :: st) σ Q = ax_f (am_fld σ a 11 28) (fun v => ax k_M_four 11 ls (v :: st) σ Q) := ru_getf f_M_four_8 rfl
theorem f_M_four_11 : am_cd k_M_four 11 = some (none, .aload_n 0, (0, 0, 0, 0, 0, .null)) := rfl
theorem s_M_four_11 {a1 a2 : Option Value} {st : List Value} {σ : am_H} {Q : Option Value → am_H → Prop} {x : Nat} : ax k_M_four 11 [some (.ref x), a1, a2] st σ Q = ax k_M_four 12 [some (.ref x), a1, a2] (.ref x :: st) σ Q := ru_loc (q := (_, _)) f_M_four_11 rfl rfl rfl
theorem f_M_four_12 : am_cd k_M_four 12 = some (none, .getfield 232, (11, 29, 946, 0, 0, .null)) := rfl
theorem s_M_four_12 {ls : am_L} {st : List Value} {σ : am_H} {Q : Option Value → am_H → Prop} {a : Nat} : ax k_M_four 12 ls (.ref a :: st) σ Q = ax_f (am_fld σ a 11 29) (fun v => ax k_M_four 15 ls (v :: st) σ Q) := ru_getf f_M_four_12 rfl
theorem f_M_four_15 : am_cd k_M_four 15 = some (none, .iload_n 1, (0, 0, 0, 0, 0, .null)) := rfl
theorem s_M_four_15 {a0 a2 : Option Value} {st : List Value} {σ : am_H} {Q : Option Value → am_H → Prop} {x : Int32} : ax k_M_four 15 [a0, some (.int x), a2] st σ Q = ax k_M_four 16 [a0, some (.int x), a2] (.int x :: st) σ Q := ru_loc (q := (_, _)) f_M_four_15 rfl rfl rfl
theorem f_M_four_16 : am_cd k_M_four 16 = some (none, .iload_n 2, (0, 0, 0, 0, 0, .null)) := rfl
theorem s_M_four_16 {a0 a1 : Option Value} {st : List Value} {σ : am_H} {Q : Option Value → am_H → Prop} {x : Int32} : ax k_M_four 16 [a0, a1, some (.int x)] st σ Q = ax k_M_four 17 [a0, a1, some (.int x)] (.int x :: st) σ Q := ru_loc (q := (_, _)) f_M_four_16 rfl rfl rfl
theorem f_M_four_17 : am_cd k_M_four 17 = some (none, .ishr, (0, 0, 0, 0, 0, .null)) := rfl
theorem s_M_four_17 {ls : am_L} {st : List Value} {σ : am_H} {Q : Option Value → am_H → Prop} {x y : Int32} : ax k_M_four 17 ls (.int y :: .int x :: st) σ Q = ax k_M_four 18 ls (.int (x >>> (y &&& 31)) :: st) σ Q := ru_pure f_M_four_17 rfl rfl
theorem f_M_four_18 : am_cd k_M_four 18 = some (none, .sipush 255, (0, 0, 0, 0, 0, .null)) := rfl
theorem s_M_four_18 {ls : am_L} {st : List Value} {σ : am_H} {Q : Option Value → am_H → Prop} : ax k_M_four 18 ls st σ Q = ax k_M_four 21 ls (.int 255 :: st) σ Q := ru_sipush f_M_four_18 (by decide +kernel) rfl
theorem f_M_four_21 : am_cd k_M_four 21 = some (none, .iand, (0, 0, 0, 0, 0, .null)) := rfl
theorem s_M_four_21 {ls : am_L} {st : List Value} {σ : am_H} {Q : Option Value → am_H → Prop} {x y : Int32} : ax k_M_four 21 ls (.int y :: .int x :: st) σ Q = ax k_M_four 22 ls (.int (x &&& y) :: st) σ Q := ru_pure f_M_four_21 rfl rfl
theorem f_M_four_22 : am_cd k_M_four 22 = some (none, .iastore, (0, 0, 0, 0, 0, .null)) := rfl
theorem s_M_four_22 {ls : am_L} {st : List Value} {σ : am_H} {Q : Option Value → am_H → Prop} {a : Nat} {j x : Int32} : ax k_M_four 22 ls (.int x :: .int j :: .ref a :: st) σ Q = ax_f (am_j σ a) (fun q => q.1 = 0 ∧ am_ix j q.2.1 ∧ a < am_top ∧ ax k_M_four 23 ls st (am_set σ a (am_ia 0 q.2.1 (upd q.2.2 j.toNatClampNeg x))) Q) := rv_iast f_M_four_22 rfl
theorem f_M_four_23 : am_cd k_M_four 23 = some (none, .aload_n 0, (0, 0, 0, 0, 0, .null)) := rfl
theorem s_M_four_23 {a1 a2 : Option Value} {st : List Value} {σ : am_H} {Q : Option Value → am_H → Prop} {x : Nat} : ax k_M_four 23 [some (.ref x), a1, a2] st σ Q = ax k_M_four 24 [some (.ref x), a1, a2] (.ref x :: st) σ Q := ru_loc (q := (_, _)) f_M_four_23 rfl rfl rfl
theorem f_M_four_24 : am_cd k_M_four 24 = some (none, .dup, (0, 0, 0, 0, 0, .null)) := rfl
theorem s_M_four_24 {ls : am_L} {st : List Value} {σ : am_H} {Q : Option Value → am_H → Prop} {a : Nat} : ax k_M_four 24 ls (.ref a :: st) σ Q = ax k_M_four 25 ls (.ref a :: .ref a :: st) σ Q := ru_pure f_M_four_24 rfl rfl
theorem f_M_four_25 : am_cd k_M_four 25 = some (none, .getfield 232, (11, 29, 946, 0, 0, .null)) := rfl
theorem s_M_four_25 {ls : am_L} {st : List Value} {σ : am_H} {Q : Option Value → am_H → Prop} {a : Nat} : ax k_M_four 25 ls (.ref a :: st) σ Q = ax_f (am_fld σ a 11 29) (fun v => ax k_M_four 28 ls (v :: st) σ Q) := ru_getf f_M_four_25 rfl
theorem f_M_four_28 : am_cd k_M_four 28 = some (none, .iconst 1, (0, 0, 0, 0, 0, .null)) := rfl
theorem s_M_four_28 {ls : am_L} {st : List Value} {σ : am_H} {Q : Option Value → am_H → Prop} : ax k_M_four 28 ls st σ Q = ax k_M_four 29 ls (.int 1 :: st) σ Q := ru_iconst f_M_four_28 (by decide +kernel) rfl
theorem f_M_four_29 : am_cd k_M_four 29 = some (none, .iadd, (0, 0, 0, 0, 0, .null)) := rfl
theorem s_M_four_29 {ls : am_L} {st : List Value} {σ : am_H} {Q : Option Value → am_H → Prop} {x y : Int32} : ax k_M_four 29 ls (.int y :: .int x :: st) σ Q = ax k_M_four 30 ls (.int (x + y) :: st) σ Q := ru_pure f_M_four_29 rfl rfl
theorem f_M_four_30 : am_cd k_M_four 30 = some (none, .putfield 232, (11, 29, 946, 0, 0, .null)) := rfl
theorem s_M_four_30 {ls : am_L} {st : List Value} {σ : am_H} {Q : Option Value → am_H → Prop} {a : Nat} {v : Value} : ax k_M_four 30 ls (v :: .ref a :: st) σ Q = ax_f (am_fld σ a 11 29) (fun _ => a < am_top ∧ am_okv 0 v = true ∧ ax k_M_four 33 ls st (am_put σ a 29 v) Q) := ru_putf f_M_four_30 rfl
theorem f_M_four_33 : am_cd k_M_four 33 = some (none, .iinc 2 (-8), (0, 0, 0, 0, 0, .null)) := rfl
theorem s_M_four_33 {a0 a1 : Option Value} {st : List Value} {σ : am_H} {Q : Option Value → am_H → Prop} {x : Int32} (hc : am_c2 a1 = false) : ax k_M_four 33 [a0, a1, some (.int x)] st σ Q = ax k_M_four 36 [a0, a1, some (.int (x + (-8)))] st σ Q := ru_iinc f_M_four_33 rfl (Nat.le_of_ble_eq_true rfl) (by decide +kernel) (ru_st1 (Nat.le_of_ble_eq_true rfl) (am_clr_c2 hc rfl) rfl) rfl
theorem f_M_four_36 : am_cd k_M_four 36 = some (none, .goto (-33), (3, 0, 0, 0, 0, .null)) := rfl
theorem s_M_four_36 {ls : am_L} {st : List Value} {σ : am_H} {Q : Option Value → am_H → Prop} : ax k_M_four 36 ls st σ Q = ax k_M_four 3 ls st σ Q := ru_goto f_M_four_36
theorem f_M_four_39 : am_cd k_M_four 39 = some (none, .return_, (0, 0, 0, 0, 0, .null)) := rfl
theorem s_M_four_39 {ls : am_L} {σ : am_H} {Q : Option Value → am_H → Prop} : ax k_M_four 39 ls ([]) σ Q = Q none σ := ru_ret f_M_four_39 rfl rfl rfl rfl rfl rfl rfl
theorem f_M_feed_0 : am_cd k_M_feed 0 = some ((some .int), .aload_n 0, (0, 0, 0, 0, 0, .null)) := rfl
theorem s_M_feed_0 {a1 a2 a3 a4 a5 : Option Value} {st : List Value} {σ : am_H} {Q : Option Value → am_H → Prop} {x : Nat} : ax k_M_feed 0 [some (.ref x), a1, a2, a3, a4, a5] st σ Q = ax k_M_feed 1 [some (.ref x), a1, a2, a3, a4, a5] (.ref x :: st) σ Q := ru_loc (q := (_, _)) f_M_feed_0 rfl rfl rfl
theorem f_M_feed_1 : am_cd k_M_feed 1 = some ((some .int), .getfield 232, (11, 29, 946, 0, 0, .null)) := rfl
theorem s_M_feed_1 {ls : am_L} {st : List Value} {σ : am_H} {Q : Option Value → am_H → Prop} {a : Nat} : ax k_M_feed 1 ls (.ref a :: st) σ Q = ax_f (am_fld σ a 11 29) (fun v => ax k_M_feed 4 ls (v :: st) σ Q) := ru_getf f_M_feed_1 rfl
theorem f_M_feed_4 : am_cd k_M_feed 4 = some ((some .int), .bipush 20, (0, 0, 0, 0, 0, .null)) := rfl
theorem s_M_feed_4 {ls : am_L} {st : List Value} {σ : am_H} {Q : Option Value → am_H → Prop} : ax k_M_feed 4 ls st σ Q = ax k_M_feed 6 ls (.int 20 :: st) σ Q := ru_bipush f_M_feed_4 (by decide +kernel) rfl
theorem f_M_feed_6 : am_cd k_M_feed 6 = some ((some .int), .iadd, (0, 0, 0, 0, 0, .null)) := rfl
theorem s_M_feed_6 {ls : am_L} {st : List Value} {σ : am_H} {Q : Option Value → am_H → Prop} {x y : Int32} : ax k_M_feed 6 ls (.int y :: .int x :: st) σ Q = ax k_M_feed 7 ls (.int (x + y) :: st) σ Q := ru_pure f_M_feed_6 rfl rfl
theorem f_M_feed_7 : am_cd k_M_feed 7 = some ((some .int), .bipush 120, (0, 0, 0, 0, 0, .null)) := rfl
theorem s_M_feed_7 {ls : am_L} {st : List Value} {σ : am_H} {Q : Option Value → am_H → Prop} : ax k_M_feed 7 ls st σ Q = ax k_M_feed 9 ls (.int 120 :: st) σ Q := ru_bipush f_M_feed_7 (by decide +kernel) rfl
theorem f_M_feed_9 : am_cd k_M_feed 9 = some ((some .int), .if_icmp .le 5, (14, 0, 0, 0, 0, .null)) := rfl
theorem s_M_feed_9 {ls : am_L} {st : List Value} {σ : am_H} {Q : Option Value → am_H → Prop} {x y : Int32} : ax k_M_feed 9 ls (.int y :: .int x :: st) σ Q = (if y < x then ax k_M_feed 12 ls st σ Q else ax k_M_feed 14 ls st σ Q) := (ru_icmp f_M_feed_9 rfl).trans (ru_i_le _ _ _ _)
theorem f_M_feed_12 : am_cd k_M_feed 12 = some ((some .int), .iconst (-1), (0, 0, 0, 0, 0, .null)) := rfl
theorem s_M_feed_12 {ls : am_L} {st : List Value} {σ : am_H} {Q : Option Value → am_H → Prop} : ax k_M_feed 12 ls st σ Q = ax k_M_feed 13 ls (.int (-1) :: st) σ Q := ru_iconst f_M_feed_12 (by decide +kernel) rfl
theorem f_M_feed_13 : am_cd k_M_feed 13 = some ((some .int), .ireturn, (0, 0, 0, 0, 0, .null)) := rfl
theorem s_M_feed_13 {ls : am_L} {σ : am_H} {Q : Option Value → am_H → Prop} {v : Int32} : ax k_M_feed 13 ls [.int v] σ Q = Q (some (.int v)) σ := ru_iretI f_M_feed_13
theorem f_M_feed_14 : am_cd k_M_feed 14 = some ((some .int), .aload_n 0, (0, 0, 0, 0, 0, .null)) := rfl
theorem s_M_feed_14 {a1 a2 a3 a4 a5 : Option Value} {st : List Value} {σ : am_H} {Q : Option Value → am_H → Prop} {x : Nat} : ax k_M_feed 14 [some (.ref x), a1, a2, a3, a4, a5] st σ Q = ax k_M_feed 15 [some (.ref x), a1, a2, a3, a4, a5] (.ref x :: st) σ Q := ru_loc (q := (_, _)) f_M_feed_14 rfl rfl rfl
theorem f_M_feed_15 : am_cd k_M_feed 15 = some ((some .int), .iload_n 1, (0, 0, 0, 0, 0, .null)) := rfl
theorem s_M_feed_15 {a0 a2 a3 a4 a5 : Option Value} {st : List Value} {σ : am_H} {Q : Option Value → am_H → Prop} {x : Int32} : ax k_M_feed 15 [a0, some (.int x), a2, a3, a4, a5] st σ Q = ax k_M_feed 16 [a0, some (.int x), a2, a3, a4, a5] (.int x :: st) σ Q := ru_loc (q := (_, _)) f_M_feed_15 rfl rfl rfl
theorem f_M_feed_16 : am_cd k_M_feed 16 = some ((some .int), .invokevirtual 235, (143, 1, 1231, 0, 11, .null)) := rfl
theorem s_M_feed_16 {ls : am_L} {st : List Value} {σ : am_H} {Q : Option Value → am_H → Prop} {p0 : Int32} {b : Nat} (hi : am_is σ b 11) (h8 : am_s8 st) : ax k_M_feed 16 ls (.int p0 :: .ref b :: st) σ Q = ax k_M_four 0 [some (.ref b), some (.int p0), none] [] σ (ax_k k_M_feed 19 ls st Q) := ru_vir (M' := rk_M_four) f_M_feed_16 rfl rfl rfl rfl hi h8 rfl rfl rfl rfl rfl
theorem f_M_feed_19 : am_cd k_M_feed 19 = some ((some .int), .aload_n 0, (0, 0, 0, 0, 0, .null)) := rfl
theorem s_M_feed_19 {a1 a2 a3 a4 a5 : Option Value} {st : List Value} {σ : am_H} {Q : Option Value → am_H → Prop} {x : Nat} : ax k_M_feed 19 [some (.ref x), a1, a2, a3, a4, a5] st σ Q = ax k_M_feed 20 [some (.ref x), a1, a2, a3, a4, a5] (.ref x :: st) σ Q := ru_loc (q := (_, _)) f_M_feed_19 rfl rfl rfl
theorem f_M_feed_20 : am_cd k_M_feed 20 = some ((some .int), .iload_n 2, (0, 0, 0, 0, 0, .null)) := rfl
theorem s_M_feed_20 {a0 a1 a3 a4 a5 : Option Value} {st : List Value} {σ : am_H} {Q : Option Value → am_H → Prop} {x : Int32} : ax k_M_feed 20 [a0, a1, some (.int x), a3, a4, a5] st σ Q = ax k_M_feed 21 [a0, a1, some (.int x), a3, a4, a5] (.int x :: st) σ Q := ru_loc (q := (_, _)) f_M_feed_20 rfl rfl rfl
theorem f_M_feed_21 : am_cd k_M_feed 21 = some ((some .int), .invokevirtual 235, (143, 1, 1231, 0, 11, .null)) := rfl
theorem s_M_feed_21 {ls : am_L} {st : List Value} {σ : am_H} {Q : Option Value → am_H → Prop} {p0 : Int32} {b : Nat} (hi : am_is σ b 11) (h8 : am_s8 st) : ax k_M_feed 21 ls (.int p0 :: .ref b :: st) σ Q = ax k_M_four 0 [some (.ref b), some (.int p0), none] [] σ (ax_k k_M_feed 24 ls st Q) := ru_vir (M' := rk_M_four) f_M_feed_21 rfl rfl rfl rfl hi h8 rfl rfl rfl rfl rfl
theorem f_M_feed_24 : am_cd k_M_feed 24 = some ((some .int), .aload_n 0, (0, 0, 0, 0, 0, .null)) := rfl
theorem s_M_feed_24 {a1 a2 a3 a4 a5 : Option Value} {st : List Value} {σ : am_H} {Q : Option Value → am_H → Prop} {x : Nat} : ax k_M_feed 24 [some (.ref x), a1, a2, a3, a4, a5] st σ Q = ax k_M_feed 25 [some (.ref x), a1, a2, a3, a4, a5] (.ref x :: st) σ Q := ru_loc (q := (_, _)) f_M_feed_24 rfl rfl rfl
theorem f_M_feed_25 : am_cd k_M_feed 25 = some ((some .int), .iload_n 3, (0, 0, 0, 0, 0, .null)) := rfl
theorem s_M_feed_25 {a0 a1 a2 a4 a5 : Option Value} {st : List Value} {σ : am_H} {Q : Option Value → am_H → Prop} {x : Int32} : ax k_M_feed 25 [a0, a1, a2, some (.int x), a4, a5] st σ Q = ax k_M_feed 26 [a0, a1, a2, some (.int x), a4, a5] (.int x :: st) σ Q := ru_loc (q := (_, _)) f_M_feed_25 rfl rfl rfl
theorem f_M_feed_26 : am_cd k_M_feed 26 = some ((some .int), .invokevirtual 235, (143, 1, 1231, 0, 11, .null)) := rfl
theorem s_M_feed_26 {ls : am_L} {st : List Value} {σ : am_H} {Q : Option Value → am_H → Prop} {p0 : Int32} {b : Nat} (hi : am_is σ b 11) (h8 : am_s8 st) : ax k_M_feed 26 ls (.int p0 :: .ref b :: st) σ Q = ax k_M_four 0 [some (.ref b), some (.int p0), none] [] σ (ax_k k_M_feed 29 ls st Q) := ru_vir (M' := rk_M_four) f_M_feed_26 rfl rfl rfl rfl hi h8 rfl rfl rfl rfl rfl
theorem f_M_feed_29 : am_cd k_M_feed 29 = some ((some .int), .aload_n 0, (0, 0, 0, 0, 0, .null)) := rfl
theorem s_M_feed_29 {a1 a2 a3 a4 a5 : Option Value} {st : List Value} {σ : am_H} {Q : Option Value → am_H → Prop} {x : Nat} : ax k_M_feed 29 [some (.ref x), a1, a2, a3, a4, a5] st σ Q = ax k_M_feed 30 [some (.ref x), a1, a2, a3, a4, a5] (.ref x :: st) σ Q := ru_loc (q := (_, _)) f_M_feed_29 rfl rfl rfl
theorem f_M_feed_30 : am_cd k_M_feed 30 = some ((some .int), .iload 4, (0, 0, 0, 0, 0, .null)) := rfl
theorem s_M_feed_30 {a0 a1 a2 a3 a5 : Option Value} {st : List Value} {σ : am_H} {Q : Option Value → am_H → Prop} {x : Int32} : ax k_M_feed 30 [a0, a1, a2, a3, some (.int x), a5] st σ Q = ax k_M_feed 32 [a0, a1, a2, a3, some (.int x), a5] (.int x :: st) σ Q := ru_loc (q := (_, _)) f_M_feed_30 rfl rfl rfl
theorem f_M_feed_32 : am_cd k_M_feed 32 = some ((some .int), .invokevirtual 235, (143, 1, 1231, 0, 11, .null)) := rfl
theorem s_M_feed_32 {ls : am_L} {st : List Value} {σ : am_H} {Q : Option Value → am_H → Prop} {p0 : Int32} {b : Nat} (hi : am_is σ b 11) (h8 : am_s8 st) : ax k_M_feed 32 ls (.int p0 :: .ref b :: st) σ Q = ax k_M_four 0 [some (.ref b), some (.int p0), none] [] σ (ax_k k_M_feed 35 ls st Q) := ru_vir (M' := rk_M_four) f_M_feed_32 rfl rfl rfl rfl hi h8 rfl rfl rfl rfl rfl
theorem f_M_feed_35 : am_cd k_M_feed 35 = some ((some .int), .aload_n 0, (0, 0, 0, 0, 0, .null)) := rfl
theorem s_M_feed_35 {a1 a2 a3 a4 a5 : Option Value} {st : List Value} {σ : am_H} {Q : Option Value → am_H → Prop} {x : Nat} : ax k_M_feed 35 [some (.ref x), a1, a2, a3, a4, a5] st σ Q = ax k_M_feed 36 [some (.ref x), a1, a2, a3, a4, a5] (.ref x :: st) σ Q := ru_loc (q := (_, _)) f_M_feed_35 rfl rfl rfl
theorem f_M_feed_36 : am_cd k_M_feed 36 = some ((some .int), .iload 5, (0, 0, 0, 0, 0, .null)) := rfl
theorem s_M_feed_36 {a0 a1 a2 a3 a4 : Option Value} {st : List Value} {σ : am_H} {Q : Option Value → am_H → Prop} {x : Int32} : ax k_M_feed 36 [a0, a1, a2, a3, a4, some (.int x)] st σ Q = ax k_M_feed 38 [a0, a1, a2, a3, a4, some (.int x)] (.int x :: st) σ Q := ru_loc (q := (_, _)) f_M_feed_36 rfl rfl rfl
theorem f_M_feed_38 : am_cd k_M_feed 38 = some ((some .int), .invokevirtual 235, (143, 1, 1231, 0, 11, .null)) := rfl
theorem s_M_feed_38 {ls : am_L} {st : List Value} {σ : am_H} {Q : Option Value → am_H → Prop} {p0 : Int32} {b : Nat} (hi : am_is σ b 11) (h8 : am_s8 st) : ax k_M_feed 38 ls (.int p0 :: .ref b :: st) σ Q = ax k_M_four 0 [some (.ref b), some (.int p0), none] [] σ (ax_k k_M_feed 41 ls st Q) := ru_vir (M' := rk_M_four) f_M_feed_38 rfl rfl rfl rfl hi h8 rfl rfl rfl rfl rfl
theorem f_M_feed_41 : am_cd k_M_feed 41 = some ((some .int), .aload_n 0, (0, 0, 0, 0, 0, .null)) := rfl
theorem s_M_feed_41 {a1 a2 a3 a4 a5 : Option Value} {st : List Value} {σ : am_H} {Q : Option Value → am_H → Prop} {x : Nat} : ax k_M_feed 41 [some (.ref x), a1, a2, a3, a4, a5] st σ Q = ax k_M_feed 42 [some (.ref x), a1, a2, a3, a4, a5] (.ref x :: st) σ Q := ru_loc (q := (_, _)) f_M_feed_41 rfl rfl rfl
theorem f_M_feed_42 : am_cd k_M_feed 42 = some ((some .int), .getfield 232, (11, 29, 946, 0, 0, .null)) := rfl
theorem s_M_feed_42 {ls : am_L} {st : List Value} {σ : am_H} {Q : Option Value → am_H → Prop} {a : Nat} : ax k_M_feed 42 ls (.ref a :: st) σ Q = ax_f (am_fld σ a 11 29) (fun v => ax k_M_feed 45 ls (v :: st) σ Q) := ru_getf f_M_feed_42 rfl
theorem f_M_feed_45 : am_cd k_M_feed 45 = some ((some .int), .ireturn, (0, 0, 0, 0, 0, .null)) := rfl
theorem s_M_feed_45 {ls : am_L} {σ : am_H} {Q : Option Value → am_H → Prop} {v : Int32} : ax k_M_feed 45 ls [.int v] σ Q = Q (some (.int v)) σ := ru_iretI f_M_feed_45
theorem f_M_end_0 : am_cd k_M_end 0 = some ((some .int), .iload_n 1, (0, 0, 0, 0, 0, .null)) := rfl
theorem s_M_end_0 {a0 : Option Value} {st : List Value} {σ : am_H} {Q : Option Value → am_H → Prop} {x : Int32} : ax k_M_end 0 [a0, some (.int x)] st σ Q = ax k_M_end 1 [a0, some (.int x)] (.int x :: st) σ Q := ru_loc (q := (_, _)) f_M_end_0 rfl rfl rfl
theorem f_M_end_1 : am_cd k_M_end 1 = some ((some .int), .iconst 0, (0, 0, 0, 0, 0, .null)) := rfl
theorem s_M_end_1 {ls : am_L} {st : List Value} {σ : am_H} {Q : Option Value → am_H → Prop} : ax k_M_end 1 ls st σ Q = ax k_M_end 2 ls (.int 0 :: st) σ Q := ru_iconst f_M_end_1 (by decide +kernel) rfl
theorem f_M_end_2 : am_cd k_M_end 2 = some ((some .int), .aload_n 0, (0, 0, 0, 0, 0, .null)) := rfl
theorem s_M_end_2 {a1 : Option Value} {st : List Value} {σ : am_H} {Q : Option Value → am_H → Prop} {x : Nat} : ax k_M_end 2 [some (.ref x), a1] st σ Q = ax k_M_end 3 [some (.ref x), a1] (.ref x :: st) σ Q := ru_loc (q := (_, _)) f_M_end_2 rfl rfl rfl
theorem f_M_end_3 : am_cd k_M_end 3 = some ((some .int), .getfield 232, (11, 29, 946, 0, 0, .null)) := rfl
theorem s_M_end_3 {ls : am_L} {st : List Value} {σ : am_H} {Q : Option Value → am_H → Prop} {a : Nat} : ax k_M_end 3 ls (.ref a :: st) σ Q = ax_f (am_fld σ a 11 29) (fun v => ax k_M_end 6 ls (v :: st) σ Q) := ru_getf f_M_end_3 rfl
theorem f_M_end_6 : am_cd k_M_end 6 = some ((some .int), .invokestatic 154, (113, 3, 1110, 0, 11, .null)) := rfl
theorem s_M_end_6 {ls : am_L} {st : List Value} {σ : am_H} {Q : Option Value → am_H → Prop} {p0 : Int32} {p1 : Int32} {p2 : Int32} (h8 : am_s8 st) : ax k_M_end 6 ls (.int p2 :: .int p1 :: .int p0 :: st) σ Q = ax k_M_isIn 0 [some (.int p0), some (.int p1), some (.int p2)] [] σ (ax_k k_M_end 9 ls st Q) := ru_sta (M' := rk_M_isIn) f_M_end_6 rfl (by decide) rfl (by simp) rfl h8 rfl rfl rfl rfl rfl
theorem f_M_end_9 : am_cd k_M_end 9 = some ((some .int), .ifCond .ne 5, (14, 0, 0, 0, 0, .null)) := rfl
theorem s_M_end_9 {ls : am_L} {st : List Value} {σ : am_H} {Q : Option Value → am_H → Prop} {x : Int32} : ax k_M_end 9 ls (.int x :: st) σ Q = (if x = 0 then ax k_M_end 12 ls st σ Q else ax k_M_end 14 ls st σ Q) := (ru_if f_M_end_9 rfl).trans (ru_i_ne _ _ _ _)
theorem f_M_end_12 : am_cd k_M_end 12 = some ((some .int), .iconst (-1), (0, 0, 0, 0, 0, .null)) := rfl
theorem s_M_end_12 {ls : am_L} {st : List Value} {σ : am_H} {Q : Option Value → am_H → Prop} : ax k_M_end 12 ls st σ Q = ax k_M_end 13 ls (.int (-1) :: st) σ Q := ru_iconst f_M_end_12 (by decide +kernel) rfl
theorem f_M_end_13 : am_cd k_M_end 13 = some ((some .int), .ireturn, (0, 0, 0, 0, 0, .null)) := rfl
theorem s_M_end_13 {ls : am_L} {σ : am_H} {Q : Option Value → am_H → Prop} {v : Int32} : ax k_M_end 13 ls [.int v] σ Q = Q (some (.int v)) σ := ru_iretI f_M_end_13
theorem f_M_end_14 : am_cd k_M_end 14 = some ((some .int), .aload_n 0, (0, 0, 0, 0, 0, .null)) := rfl
theorem s_M_end_14 {a1 : Option Value} {st : List Value} {σ : am_H} {Q : Option Value → am_H → Prop} {x : Nat} : ax k_M_end 14 [some (.ref x), a1] st σ Q = ax k_M_end 15 [some (.ref x), a1] (.ref x :: st) σ Q := ru_loc (q := (_, _)) f_M_end_14 rfl rfl rfl
theorem f_M_end_15 : am_cd k_M_end 15 = some ((some .int), .iload_n 1, (0, 0, 0, 0, 0, .null)) := rfl
theorem s_M_end_15 {a0 : Option Value} {st : List Value} {σ : am_H} {Q : Option Value → am_H → Prop} {x : Int32} : ax k_M_end 15 [a0, some (.int x)] st σ Q = ax k_M_end 16 [a0, some (.int x)] (.int x :: st) σ Q := ru_loc (q := (_, _)) f_M_end_15 rfl rfl rfl
theorem f_M_end_16 : am_cd k_M_end 16 = some ((some .int), .putfield 232, (11, 29, 946, 0, 0, .null)) := rfl
theorem s_M_end_16 {ls : am_L} {st : List Value} {σ : am_H} {Q : Option Value → am_H → Prop} {a : Nat} {v : Value} : ax k_M_end 16 ls (v :: .ref a :: st) σ Q = ax_f (am_fld σ a 11 29) (fun _ => a < am_top ∧ am_okv 0 v = true ∧ ax k_M_end 19 ls st (am_put σ a 29 v) Q) := ru_putf f_M_end_16 rfl
theorem f_M_end_19 : am_cd k_M_end 19 = some ((some .int), .iload_n 1, (0, 0, 0, 0, 0, .null)) := rfl
theorem s_M_end_19 {a0 : Option Value} {st : List Value} {σ : am_H} {Q : Option Value → am_H → Prop} {x : Int32} : ax k_M_end 19 [a0, some (.int x)] st σ Q = ax k_M_end 20 [a0, some (.int x)] (.int x :: st) σ Q := ru_loc (q := (_, _)) f_M_end_19 rfl rfl rfl
theorem f_M_end_20 : am_cd k_M_end 20 = some ((some .int), .ireturn, (0, 0, 0, 0, 0, .null)) := rfl
theorem s_M_end_20 {ls : am_L} {σ : am_H} {Q : Option Value → am_H → Prop} {v : Int32} : ax k_M_end 20 ls [.int v] σ Q = Q (some (.int v)) σ := ru_iretI f_M_end_20
theorem f_M_see_0 : am_cd k_M_see 0 = some ((some .int), .iload_n 1, (0, 0, 0, 0, 0, .null)) := rfl
theorem s_M_see_0 {a0 : Option Value} {st : List Value} {σ : am_H} {Q : Option Value → am_H → Prop} {x : Int32} : ax k_M_see 0 [a0, some (.int x)] st σ Q = ax k_M_see 1 [a0, some (.int x)] (.int x :: st) σ Q := ru_loc (q := (_, _)) f_M_see_0 rfl rfl rfl
theorem f_M_see_1 : am_cd k_M_see 1 = some ((some .int), .aload_n 0, (0, 0, 0, 0, 0, .null)) := rfl
theorem s_M_see_1 {a1 : Option Value} {st : List Value} {σ : am_H} {Q : Option Value → am_H → Prop} {x : Nat} : ax k_M_see 1 [some (.ref x), a1] st σ Q = ax k_M_see 2 [some (.ref x), a1] (.ref x :: st) σ Q := ru_loc (q := (_, _)) f_M_see_1 rfl rfl rfl
theorem f_M_see_2 : am_cd k_M_see 2 = some ((some .int), .getfield 232, (11, 29, 946, 0, 0, .null)) := rfl
theorem s_M_see_2 {ls : am_L} {st : List Value} {σ : am_H} {Q : Option Value → am_H → Prop} {a : Nat} : ax k_M_see 2 ls (.ref a :: st) σ Q = ax_f (am_fld σ a 11 29) (fun v => ax k_M_see 5 ls (v :: st) σ Q) := ru_getf f_M_see_2 rfl
theorem f_M_see_5 : am_cd k_M_see 5 = some ((some .int), .if_icmp .ge 12, (17, 0, 0, 0, 0, .null)) := rfl
theorem s_M_see_5 {ls : am_L} {st : List Value} {σ : am_H} {Q : Option Value → am_H → Prop} {x y : Int32} : ax k_M_see 5 ls (.int y :: .int x :: st) σ Q = (if x < y then ax k_M_see 8 ls st σ Q else ax k_M_see 17 ls st σ Q) := (ru_icmp f_M_see_5 rfl).trans (ru_i_ge _ _ _ _)
theorem f_M_see_8 : am_cd k_M_see 8 = some ((some .int), .aload_n 0, (0, 0, 0, 0, 0, .null)) := rfl
theorem s_M_see_8 {a1 : Option Value} {st : List Value} {σ : am_H} {Q : Option Value → am_H → Prop} {x : Nat} : ax k_M_see 8 [some (.ref x), a1] st σ Q = ax k_M_see 9 [some (.ref x), a1] (.ref x :: st) σ Q := ru_loc (q := (_, _)) f_M_see_8 rfl rfl rfl
theorem f_M_see_9 : am_cd k_M_see 9 = some ((some .int), .getfield 72, (11, 28, 945, 0, 3, .null)) := rfl
theorem s_M_see_9 {ls : am_L} {st : List Value} {σ : am_H} {Q : Option Value → am_H → Prop} {a : Nat} : ax k_M_see 9 ls (.ref a :: st) σ Q = ax_f (am_fld σ a 11 28) (fun v => ax k_M_see 12 ls (v :: st) σ Q) := ru_getf f_M_see_9 rfl
theorem f_M_see_12 : am_cd k_M_see 12 = some ((some .int), .iload_n 1, (0, 0, 0, 0, 0, .null)) := rfl
theorem s_M_see_12 {a0 : Option Value} {st : List Value} {σ : am_H} {Q : Option Value → am_H → Prop} {x : Int32} : ax k_M_see 12 [a0, some (.int x)] st σ Q = ax k_M_see 13 [a0, some (.int x)] (.int x :: st) σ Q := ru_loc (q := (_, _)) f_M_see_12 rfl rfl rfl
theorem f_M_see_13 : am_cd k_M_see 13 = some ((some .int), .iaload, (0, 0, 0, 0, 0, .null)) := rfl
theorem s_M_see_13 {ls : am_L} {st : List Value} {σ : am_H} {Q : Option Value → am_H → Prop} {a : Nat} {j : Int32} : ax k_M_see 13 ls (.int j :: .ref a :: st) σ Q = ax_f (am_j σ a) (fun q => q.1 = 0 ∧ am_ix j q.2.1 ∧ ax k_M_see 14 ls (.int (q.2.2 j.toNatClampNeg) :: st) σ Q) := rv_iald f_M_see_13 rfl
theorem f_M_see_14 : am_cd k_M_see 14 = some ((some .int), .goto 4, (18, 0, 0, 0, 0, .null)) := rfl
theorem s_M_see_14 {ls : am_L} {st : List Value} {σ : am_H} {Q : Option Value → am_H → Prop} : ax k_M_see 14 ls st σ Q = ax k_M_see 18 ls st σ Q := ru_goto f_M_see_14
theorem f_M_see_17 : am_cd k_M_see 17 = some ((some .int), .iconst (-1), (0, 0, 0, 0, 0, .null)) := rfl
theorem s_M_see_17 {ls : am_L} {st : List Value} {σ : am_H} {Q : Option Value → am_H → Prop} : ax k_M_see 17 ls st σ Q = ax k_M_see 18 ls (.int (-1) :: st) σ Q := ru_iconst f_M_see_17 (by decide +kernel) rfl
theorem f_M_see_18 : am_cd k_M_see 18 = some ((some .int), .ireturn, (0, 0, 0, 0, 0, .null)) := rfl
theorem s_M_see_18 {ls : am_L} {σ : am_H} {Q : Option Value → am_H → Prop} {v : Int32} : ax k_M_see 18 ls [.int v] σ Q = Q (some (.int v)) σ := ru_iretI f_M_see_18
theorem f_M_isLetter_0 : am_cd k_M_isLetter 0 = some ((some .boolean), .iload_n 0, (0, 0, 0, 0, 0, .null)) := rfl
theorem s_M_isLetter_0 {st : List Value} {σ : am_H} {Q : Option Value → am_H → Prop} {x : Int32} : ax k_M_isLetter 0 [some (.int x)] st σ Q = ax k_M_isLetter 1 [some (.int x)] (.int x :: st) σ Q := ru_loc (q := (_, _)) f_M_isLetter_0 rfl rfl rfl
theorem f_M_isLetter_1 : am_cd k_M_isLetter 1 = some ((some .boolean), .bipush 97, (0, 0, 0, 0, 0, .null)) := rfl
theorem s_M_isLetter_1 {ls : am_L} {st : List Value} {σ : am_H} {Q : Option Value → am_H → Prop} : ax k_M_isLetter 1 ls st σ Q = ax k_M_isLetter 3 ls (.int 97 :: st) σ Q := ru_bipush f_M_isLetter_1 (by decide +kernel) rfl
theorem f_M_isLetter_3 : am_cd k_M_isLetter 3 = some ((some .boolean), .bipush 122, (0, 0, 0, 0, 0, .null)) := rfl
theorem s_M_isLetter_3 {ls : am_L} {st : List Value} {σ : am_H} {Q : Option Value → am_H → Prop} : ax k_M_isLetter 3 ls st σ Q = ax k_M_isLetter 5 ls (.int 122 :: st) σ Q := ru_bipush f_M_isLetter_3 (by decide +kernel) rfl
theorem f_M_isLetter_5 : am_cd k_M_isLetter 5 = some ((some .boolean), .invokestatic 154, (113, 3, 1110, 0, 11, .null)) := rfl
theorem s_M_isLetter_5 {ls : am_L} {st : List Value} {σ : am_H} {Q : Option Value → am_H → Prop} {p0 : Int32} {p1 : Int32} {p2 : Int32} (h8 : am_s8 st) : ax k_M_isLetter 5 ls (.int p2 :: .int p1 :: .int p0 :: st) σ Q = ax k_M_isIn 0 [some (.int p0), some (.int p1), some (.int p2)] [] σ (ax_k k_M_isLetter 8 ls st Q) := ru_sta (M' := rk_M_isIn) f_M_isLetter_5 rfl (by decide) rfl (by simp) rfl h8 rfl rfl rfl rfl rfl
theorem f_M_isLetter_8 : am_cd k_M_isLetter 8 = some ((some .boolean), .ifCond .ne 14, (22, 0, 0, 0, 0, .null)) := rfl
theorem s_M_isLetter_8 {ls : am_L} {st : List Value} {σ : am_H} {Q : Option Value → am_H → Prop} {x : Int32} : ax k_M_isLetter 8 ls (.int x :: st) σ Q = (if x = 0 then ax k_M_isLetter 11 ls st σ Q else ax k_M_isLetter 22 ls st σ Q) := (ru_if f_M_isLetter_8 rfl).trans (ru_i_ne _ _ _ _)
theorem f_M_isLetter_11 : am_cd k_M_isLetter 11 = some ((some .boolean), .iload_n 0, (0, 0, 0, 0, 0, .null)) := rfl
theorem s_M_isLetter_11 {st : List Value} {σ : am_H} {Q : Option Value → am_H → Prop} {x : Int32} : ax k_M_isLetter 11 [some (.int x)] st σ Q = ax k_M_isLetter 12 [some (.int x)] (.int x :: st) σ Q := ru_loc (q := (_, _)) f_M_isLetter_11 rfl rfl rfl
theorem f_M_isLetter_12 : am_cd k_M_isLetter 12 = some ((some .boolean), .bipush 65, (0, 0, 0, 0, 0, .null)) := rfl
theorem s_M_isLetter_12 {ls : am_L} {st : List Value} {σ : am_H} {Q : Option Value → am_H → Prop} : ax k_M_isLetter 12 ls st σ Q = ax k_M_isLetter 14 ls (.int 65 :: st) σ Q := ru_bipush f_M_isLetter_12 (by decide +kernel) rfl
theorem f_M_isLetter_14 : am_cd k_M_isLetter 14 = some ((some .boolean), .bipush 90, (0, 0, 0, 0, 0, .null)) := rfl
theorem s_M_isLetter_14 {ls : am_L} {st : List Value} {σ : am_H} {Q : Option Value → am_H → Prop} : ax k_M_isLetter 14 ls st σ Q = ax k_M_isLetter 16 ls (.int 90 :: st) σ Q := ru_bipush f_M_isLetter_14 (by decide +kernel) rfl
theorem f_M_isLetter_16 : am_cd k_M_isLetter 16 = some ((some .boolean), .invokestatic 154, (113, 3, 1110, 0, 11, .null)) := rfl
theorem s_M_isLetter_16 {ls : am_L} {st : List Value} {σ : am_H} {Q : Option Value → am_H → Prop} {p0 : Int32} {p1 : Int32} {p2 : Int32} (h8 : am_s8 st) : ax k_M_isLetter 16 ls (.int p2 :: .int p1 :: .int p0 :: st) σ Q = ax k_M_isIn 0 [some (.int p0), some (.int p1), some (.int p2)] [] σ (ax_k k_M_isLetter 19 ls st Q) := ru_sta (M' := rk_M_isIn) f_M_isLetter_16 rfl (by decide) rfl (by simp) rfl h8 rfl rfl rfl rfl rfl
theorem f_M_isLetter_19 : am_cd k_M_isLetter 19 = some ((some .boolean), .ifCond .eq 7, (26, 0, 0, 0, 0, .null)) := rfl
theorem s_M_isLetter_19 {ls : am_L} {st : List Value} {σ : am_H} {Q : Option Value → am_H → Prop} {x : Int32} : ax k_M_isLetter 19 ls (.int x :: st) σ Q = (if x = 0 then ax k_M_isLetter 26 ls st σ Q else ax k_M_isLetter 22 ls st σ Q) := (ru_if f_M_isLetter_19 rfl).trans (ru_i_eq _ _ _ _)
theorem f_M_isLetter_22 : am_cd k_M_isLetter 22 = some ((some .boolean), .iconst 1, (0, 0, 0, 0, 0, .null)) := rfl
theorem s_M_isLetter_22 {ls : am_L} {st : List Value} {σ : am_H} {Q : Option Value → am_H → Prop} : ax k_M_isLetter 22 ls st σ Q = ax k_M_isLetter 23 ls (.int 1 :: st) σ Q := ru_iconst f_M_isLetter_22 (by decide +kernel) rfl
theorem f_M_isLetter_23 : am_cd k_M_isLetter 23 = some ((some .boolean), .goto 4, (27, 0, 0, 0, 0, .null)) := rfl
theorem s_M_isLetter_23 {ls : am_L} {st : List Value} {σ : am_H} {Q : Option Value → am_H → Prop} : ax k_M_isLetter 23 ls st σ Q = ax k_M_isLetter 27 ls st σ Q := ru_goto f_M_isLetter_23
theorem f_M_isLetter_26 : am_cd k_M_isLetter 26 = some ((some .boolean), .iconst 0, (0, 0, 0, 0, 0, .null)) := rfl
theorem s_M_isLetter_26 {ls : am_L} {st : List Value} {σ : am_H} {Q : Option Value → am_H → Prop} : ax k_M_isLetter 26 ls st σ Q = ax k_M_isLetter 27 ls (.int 0 :: st) σ Q := ru_iconst f_M_isLetter_26 (by decide +kernel) rfl
theorem f_M_isLetter_27 : am_cd k_M_isLetter 27 = some ((some .boolean), .ireturn, (0, 0, 0, 0, 0, .null)) := rfl
theorem s_M_isLetter_27 {ls : am_L} {σ : am_H} {Q : Option Value → am_H → Prop} {v : Int32} : ax k_M_isLetter 27 ls ([.int v]) σ Q = (am_nar .boolean v = true ∧ Q (some (.int v)) σ) := ru_iret f_M_isLetter_27
theorem f_M_isDigit_0 : am_cd k_M_isDigit 0 = some ((some .boolean), .iload_n 0, (0, 0, 0, 0, 0, .null)) := rfl
theorem s_M_isDigit_0 {st : List Value} {σ : am_H} {Q : Option Value → am_H → Prop} {x : Int32} : ax k_M_isDigit 0 [some (.int x)] st σ Q = ax k_M_isDigit 1 [some (.int x)] (.int x :: st) σ Q := ru_loc (q := (_, _)) f_M_isDigit_0 rfl rfl rfl
theorem f_M_isDigit_1 : am_cd k_M_isDigit 1 = some ((some .boolean), .bipush 48, (0, 0, 0, 0, 0, .null)) := rfl
theorem s_M_isDigit_1 {ls : am_L} {st : List Value} {σ : am_H} {Q : Option Value → am_H → Prop} : ax k_M_isDigit 1 ls st σ Q = ax k_M_isDigit 3 ls (.int 48 :: st) σ Q := ru_bipush f_M_isDigit_1 (by decide +kernel) rfl
theorem f_M_isDigit_3 : am_cd k_M_isDigit 3 = some ((some .boolean), .bipush 57, (0, 0, 0, 0, 0, .null)) := rfl
theorem s_M_isDigit_3 {ls : am_L} {st : List Value} {σ : am_H} {Q : Option Value → am_H → Prop} : ax k_M_isDigit 3 ls st σ Q = ax k_M_isDigit 5 ls (.int 57 :: st) σ Q := ru_bipush f_M_isDigit_3 (by decide +kernel) rfl
theorem f_M_isDigit_5 : am_cd k_M_isDigit 5 = some ((some .boolean), .invokestatic 154, (113, 3, 1110, 0, 11, .null)) := rfl
theorem s_M_isDigit_5 {ls : am_L} {st : List Value} {σ : am_H} {Q : Option Value → am_H → Prop} {p0 : Int32} {p1 : Int32} {p2 : Int32} (h8 : am_s8 st) : ax k_M_isDigit 5 ls (.int p2 :: .int p1 :: .int p0 :: st) σ Q = ax k_M_isIn 0 [some (.int p0), some (.int p1), some (.int p2)] [] σ (ax_k k_M_isDigit 8 ls st Q) := ru_sta (M' := rk_M_isIn) f_M_isDigit_5 rfl (by decide) rfl (by simp) rfl h8 rfl rfl rfl rfl rfl
theorem f_M_isDigit_8 : am_cd k_M_isDigit 8 = some ((some .boolean), .ireturn, (0, 0, 0, 0, 0, .null)) := rfl
theorem s_M_isDigit_8 {ls : am_L} {σ : am_H} {Q : Option Value → am_H → Prop} {v : Int32} : ax k_M_isDigit 8 ls ([.int v]) σ Q = (am_nar .boolean v = true ∧ Q (some (.int v)) σ) := ru_iret f_M_isDigit_8
theorem f_M_pack_0 : am_cd k_M_pack 0 = some ((some .int), .iload_n 0, (0, 0, 0, 0, 0, .null)) := rfl
theorem s_M_pack_0 {a1 a2 a3 : Option Value} {st : List Value} {σ : am_H} {Q : Option Value → am_H → Prop} {x : Int32} : ax k_M_pack 0 [some (.int x), a1, a2, a3] st σ Q = ax k_M_pack 1 [some (.int x), a1, a2, a3] (.int x :: st) σ Q := ru_loc (q := (_, _)) f_M_pack_0 rfl rfl rfl
theorem f_M_pack_1 : am_cd k_M_pack 1 = some ((some .int), .bipush 7, (0, 0, 0, 0, 0, .null)) := rfl
theorem s_M_pack_1 {ls : am_L} {st : List Value} {σ : am_H} {Q : Option Value → am_H → Prop} : ax k_M_pack 1 ls st σ Q = ax k_M_pack 3 ls (.int 7 :: st) σ Q := ru_bipush f_M_pack_1 (by decide +kernel) rfl
theorem f_M_pack_3 : am_cd k_M_pack 3 = some ((some .int), .ishl, (0, 0, 0, 0, 0, .null)) := rfl
theorem s_M_pack_3 {ls : am_L} {st : List Value} {σ : am_H} {Q : Option Value → am_H → Prop} {x y : Int32} : ax k_M_pack 3 ls (.int y :: .int x :: st) σ Q = ax k_M_pack 4 ls (.int (x <<< (y &&& 31)) :: st) σ Q := ru_pure f_M_pack_3 rfl rfl
theorem f_M_pack_4 : am_cd k_M_pack 4 = some ((some .int), .iload_n 1, (0, 0, 0, 0, 0, .null)) := rfl
theorem s_M_pack_4 {a0 a2 a3 : Option Value} {st : List Value} {σ : am_H} {Q : Option Value → am_H → Prop} {x : Int32} : ax k_M_pack 4 [a0, some (.int x), a2, a3] st σ Q = ax k_M_pack 5 [a0, some (.int x), a2, a3] (.int x :: st) σ Q := ru_loc (q := (_, _)) f_M_pack_4 rfl rfl rfl
theorem f_M_pack_5 : am_cd k_M_pack 5 = some ((some .int), .ior, (0, 0, 0, 0, 0, .null)) := rfl
theorem s_M_pack_5 {ls : am_L} {st : List Value} {σ : am_H} {Q : Option Value → am_H → Prop} {x y : Int32} : ax k_M_pack 5 ls (.int y :: .int x :: st) σ Q = ax k_M_pack 6 ls (.int (x ||| y) :: st) σ Q := ru_pure f_M_pack_5 rfl rfl
theorem f_M_pack_6 : am_cd k_M_pack 6 = some ((some .int), .bipush 7, (0, 0, 0, 0, 0, .null)) := rfl
theorem s_M_pack_6 {ls : am_L} {st : List Value} {σ : am_H} {Q : Option Value → am_H → Prop} : ax k_M_pack 6 ls st σ Q = ax k_M_pack 8 ls (.int 7 :: st) σ Q := ru_bipush f_M_pack_6 (by decide +kernel) rfl
theorem f_M_pack_8 : am_cd k_M_pack 8 = some ((some .int), .ishl, (0, 0, 0, 0, 0, .null)) := rfl
theorem s_M_pack_8 {ls : am_L} {st : List Value} {σ : am_H} {Q : Option Value → am_H → Prop} {x y : Int32} : ax k_M_pack 8 ls (.int y :: .int x :: st) σ Q = ax k_M_pack 9 ls (.int (x <<< (y &&& 31)) :: st) σ Q := ru_pure f_M_pack_8 rfl rfl
theorem f_M_pack_9 : am_cd k_M_pack 9 = some ((some .int), .iload_n 2, (0, 0, 0, 0, 0, .null)) := rfl
theorem s_M_pack_9 {a0 a1 a3 : Option Value} {st : List Value} {σ : am_H} {Q : Option Value → am_H → Prop} {x : Int32} : ax k_M_pack 9 [a0, a1, some (.int x), a3] st σ Q = ax k_M_pack 10 [a0, a1, some (.int x), a3] (.int x :: st) σ Q := ru_loc (q := (_, _)) f_M_pack_9 rfl rfl rfl
theorem f_M_pack_10 : am_cd k_M_pack 10 = some ((some .int), .ior, (0, 0, 0, 0, 0, .null)) := rfl
theorem s_M_pack_10 {ls : am_L} {st : List Value} {σ : am_H} {Q : Option Value → am_H → Prop} {x y : Int32} : ax k_M_pack 10 ls (.int y :: .int x :: st) σ Q = ax k_M_pack 11 ls (.int (x ||| y) :: st) σ Q := ru_pure f_M_pack_10 rfl rfl
theorem f_M_pack_11 : am_cd k_M_pack 11 = some ((some .int), .bipush 7, (0, 0, 0, 0, 0, .null)) := rfl
theorem s_M_pack_11 {ls : am_L} {st : List Value} {σ : am_H} {Q : Option Value → am_H → Prop} : ax k_M_pack 11 ls st σ Q = ax k_M_pack 13 ls (.int 7 :: st) σ Q := ru_bipush f_M_pack_11 (by decide +kernel) rfl
theorem f_M_pack_13 : am_cd k_M_pack 13 = some ((some .int), .ishl, (0, 0, 0, 0, 0, .null)) := rfl
theorem s_M_pack_13 {ls : am_L} {st : List Value} {σ : am_H} {Q : Option Value → am_H → Prop} {x y : Int32} : ax k_M_pack 13 ls (.int y :: .int x :: st) σ Q = ax k_M_pack 14 ls (.int (x <<< (y &&& 31)) :: st) σ Q := ru_pure f_M_pack_13 rfl rfl
theorem f_M_pack_14 : am_cd k_M_pack 14 = some ((some .int), .iload_n 3, (0, 0, 0, 0, 0, .null)) := rfl
theorem s_M_pack_14 {a0 a1 a2 : Option Value} {st : List Value} {σ : am_H} {Q : Option Value → am_H → Prop} {x : Int32} : ax k_M_pack 14 [a0, a1, a2, some (.int x)] st σ Q = ax k_M_pack 15 [a0, a1, a2, some (.int x)] (.int x :: st) σ Q := ru_loc (q := (_, _)) f_M_pack_14 rfl rfl rfl
theorem f_M_pack_15 : am_cd k_M_pack 15 = some ((some .int), .ior, (0, 0, 0, 0, 0, .null)) := rfl
theorem s_M_pack_15 {ls : am_L} {st : List Value} {σ : am_H} {Q : Option Value → am_H → Prop} {x y : Int32} : ax k_M_pack 15 ls (.int y :: .int x :: st) σ Q = ax k_M_pack 16 ls (.int (x ||| y) :: st) σ Q := ru_pure f_M_pack_15 rfl rfl
theorem f_M_pack_16 : am_cd k_M_pack 16 = some ((some .int), .ireturn, (0, 0, 0, 0, 0, .null)) := rfl
theorem s_M_pack_16 {ls : am_L} {σ : am_H} {Q : Option Value → am_H → Prop} {v : Int32} : ax k_M_pack 16 ls [.int v] σ Q = Q (some (.int v)) σ := ru_iretI f_M_pack_16
theorem f_M_wordOf_0 : am_cd k_M_wordOf 0 = some ((some .int), .iload_n 0, (0, 0, 0, 0, 0, .null)) := rfl
theorem s_M_wordOf_0 {st : List Value} {σ : am_H} {Q : Option Value → am_H → Prop} {x : Int32} : ax k_M_wordOf 0 [some (.int x)] st σ Q = ax k_M_wordOf 1 [some (.int x)] (.int x :: st) σ Q := ru_loc (q := (_, _)) f_M_wordOf_0 rfl rfl rfl
theorem f_M_wordOf_1 : am_cd k_M_wordOf 1 = some ((some .int), .bipush 108, (0, 0, 0, 0, 0, .null)) := rfl
theorem s_M_wordOf_1 {ls : am_L} {st : List Value} {σ : am_H} {Q : Option Value → am_H → Prop} : ax k_M_wordOf 1 ls st σ Q = ax k_M_wordOf 3 ls (.int 108 :: st) σ Q := ru_bipush f_M_wordOf_1 (by decide +kernel) rfl
theorem f_M_wordOf_3 : am_cd k_M_wordOf 3 = some ((some .int), .bipush 97, (0, 0, 0, 0, 0, .null)) := rfl
theorem s_M_wordOf_3 {ls : am_L} {st : List Value} {σ : am_H} {Q : Option Value → am_H → Prop} : ax k_M_wordOf 3 ls st σ Q = ax k_M_wordOf 5 ls (.int 97 :: st) σ Q := ru_bipush f_M_wordOf_3 (by decide +kernel) rfl
theorem f_M_wordOf_5 : am_cd k_M_wordOf 5 = some ((some .int), .bipush 110, (0, 0, 0, 0, 0, .null)) := rfl
theorem s_M_wordOf_5 {ls : am_L} {st : List Value} {σ : am_H} {Q : Option Value → am_H → Prop} : ax k_M_wordOf 5 ls st σ Q = ax k_M_wordOf 7 ls (.int 110 :: st) σ Q := ru_bipush f_M_wordOf_5 (by decide +kernel) rfl
theorem f_M_wordOf_7 : am_cd k_M_wordOf 7 = some ((some .int), .bipush 100, (0, 0, 0, 0, 0, .null)) := rfl
theorem s_M_wordOf_7 {ls : am_L} {st : List Value} {σ : am_H} {Q : Option Value → am_H → Prop} : ax k_M_wordOf 7 ls st σ Q = ax k_M_wordOf 9 ls (.int 100 :: st) σ Q := ru_bipush f_M_wordOf_7 (by decide +kernel) rfl
theorem f_M_wordOf_9 : am_cd k_M_wordOf 9 = some ((some .int), .invokestatic 238, (149, 4, 1265, 0, 11, .null)) := rfl
theorem s_M_wordOf_9 {ls : am_L} {st : List Value} {σ : am_H} {Q : Option Value → am_H → Prop} {p0 : Int32} {p1 : Int32} {p2 : Int32} {p3 : Int32} (h8 : am_s8 st) : ax k_M_wordOf 9 ls (.int p3 :: .int p2 :: .int p1 :: .int p0 :: st) σ Q = ax k_M_pack 0 [some (.int p0), some (.int p1), some (.int p2), some (.int p3)] [] σ (ax_k k_M_wordOf 12 ls st Q) := ru_sta (M' := rk_M_pack) f_M_wordOf_9 rfl (by decide) rfl (by simp) rfl h8 rfl rfl rfl rfl rfl
theorem f_M_wordOf_12 : am_cd k_M_wordOf 12 = some ((some .int), .if_icmp .ne 5, (17, 0, 0, 0, 0, .null)) := rfl
theorem s_M_wordOf_12 {ls : am_L} {st : List Value} {σ : am_H} {Q : Option Value → am_H → Prop} {x y : Int32} : ax k_M_wordOf 12 ls (.int y :: .int x :: st) σ Q = (if x = y then ax k_M_wordOf 15 ls st σ Q else ax k_M_wordOf 17 ls st σ Q) := (ru_icmp f_M_wordOf_12 rfl).trans (ru_i_ne _ _ _ _)
theorem f_M_wordOf_15 : am_cd k_M_wordOf 15 = some ((some .int), .iconst 4, (0, 0, 0, 0, 0, .null)) := rfl
theorem s_M_wordOf_15 {ls : am_L} {st : List Value} {σ : am_H} {Q : Option Value → am_H → Prop} : ax k_M_wordOf 15 ls st σ Q = ax k_M_wordOf 16 ls (.int 4 :: st) σ Q := ru_iconst f_M_wordOf_15 (by decide +kernel) rfl
theorem f_M_wordOf_16 : am_cd k_M_wordOf 16 = some ((some .int), .ireturn, (0, 0, 0, 0, 0, .null)) := rfl
theorem s_M_wordOf_16 {ls : am_L} {σ : am_H} {Q : Option Value → am_H → Prop} {v : Int32} : ax k_M_wordOf 16 ls [.int v] σ Q = Q (some (.int v)) σ := ru_iretI f_M_wordOf_16
theorem f_M_wordOf_17 : am_cd k_M_wordOf 17 = some ((some .int), .iload_n 0, (0, 0, 0, 0, 0, .null)) := rfl
theorem s_M_wordOf_17 {st : List Value} {σ : am_H} {Q : Option Value → am_H → Prop} {x : Int32} : ax k_M_wordOf 17 [some (.int x)] st σ Q = ax k_M_wordOf 18 [some (.int x)] (.int x :: st) σ Q := ru_loc (q := (_, _)) f_M_wordOf_17 rfl rfl rfl
theorem f_M_wordOf_18 : am_cd k_M_wordOf 18 = some ((some .int), .iconst 0, (0, 0, 0, 0, 0, .null)) := rfl
theorem s_M_wordOf_18 {ls : am_L} {st : List Value} {σ : am_H} {Q : Option Value → am_H → Prop} : ax k_M_wordOf 18 ls st σ Q = ax k_M_wordOf 19 ls (.int 0 :: st) σ Q := ru_iconst f_M_wordOf_18 (by decide +kernel) rfl
theorem f_M_wordOf_19 : am_cd k_M_wordOf 19 = some ((some .int), .bipush 117, (0, 0, 0, 0, 0, .null)) := rfl
theorem s_M_wordOf_19 {ls : am_L} {st : List Value} {σ : am_H} {Q : Option Value → am_H → Prop} : ax k_M_wordOf 19 ls st σ Q = ax k_M_wordOf 21 ls (.int 117 :: st) σ Q := ru_bipush f_M_wordOf_19 (by decide +kernel) rfl
theorem f_M_wordOf_21 : am_cd k_M_wordOf 21 = some ((some .int), .bipush 115, (0, 0, 0, 0, 0, .null)) := rfl
theorem s_M_wordOf_21 {ls : am_L} {st : List Value} {σ : am_H} {Q : Option Value → am_H → Prop} : ax k_M_wordOf 21 ls st σ Q = ax k_M_wordOf 23 ls (.int 115 :: st) σ Q := ru_bipush f_M_wordOf_21 (by decide +kernel) rfl
theorem f_M_wordOf_23 : am_cd k_M_wordOf 23 = some ((some .int), .bipush 101, (0, 0, 0, 0, 0, .null)) := rfl
theorem s_M_wordOf_23 {ls : am_L} {st : List Value} {σ : am_H} {Q : Option Value → am_H → Prop} : ax k_M_wordOf 23 ls st σ Q = ax k_M_wordOf 25 ls (.int 101 :: st) σ Q := ru_bipush f_M_wordOf_23 (by decide +kernel) rfl
theorem f_M_wordOf_25 : am_cd k_M_wordOf 25 = some ((some .int), .invokestatic 238, (149, 4, 1265, 0, 11, .null)) := rfl
theorem s_M_wordOf_25 {ls : am_L} {st : List Value} {σ : am_H} {Q : Option Value → am_H → Prop} {p0 : Int32} {p1 : Int32} {p2 : Int32} {p3 : Int32} (h8 : am_s8 st) : ax k_M_wordOf 25 ls (.int p3 :: .int p2 :: .int p1 :: .int p0 :: st) σ Q = ax k_M_pack 0 [some (.int p0), some (.int p1), some (.int p2), some (.int p3)] [] σ (ax_k k_M_wordOf 28 ls st Q) := ru_sta (M' := rk_M_pack) f_M_wordOf_25 rfl (by decide) rfl (by simp) rfl h8 rfl rfl rfl rfl rfl
theorem f_M_wordOf_28 : am_cd k_M_wordOf 28 = some ((some .int), .if_icmp .ne 5, (33, 0, 0, 0, 0, .null)) := rfl
theorem s_M_wordOf_28 {ls : am_L} {st : List Value} {σ : am_H} {Q : Option Value → am_H → Prop} {x y : Int32} : ax k_M_wordOf 28 ls (.int y :: .int x :: st) σ Q = (if x = y then ax k_M_wordOf 31 ls st σ Q else ax k_M_wordOf 33 ls st σ Q) := (ru_icmp f_M_wordOf_28 rfl).trans (ru_i_ne _ _ _ _)
theorem f_M_wordOf_31 : am_cd k_M_wordOf 31 = some ((some .int), .iconst 5, (0, 0, 0, 0, 0, .null)) := rfl
theorem s_M_wordOf_31 {ls : am_L} {st : List Value} {σ : am_H} {Q : Option Value → am_H → Prop} : ax k_M_wordOf 31 ls st σ Q = ax k_M_wordOf 32 ls (.int 5 :: st) σ Q := ru_iconst f_M_wordOf_31 (by decide +kernel) rfl
theorem f_M_wordOf_32 : am_cd k_M_wordOf 32 = some ((some .int), .ireturn, (0, 0, 0, 0, 0, .null)) := rfl
theorem s_M_wordOf_32 {ls : am_L} {σ : am_H} {Q : Option Value → am_H → Prop} {v : Int32} : ax k_M_wordOf 32 ls [.int v] σ Q = Q (some (.int v)) σ := ru_iretI f_M_wordOf_32
theorem f_M_wordOf_33 : am_cd k_M_wordOf 33 = some ((some .int), .iload_n 0, (0, 0, 0, 0, 0, .null)) := rfl
theorem s_M_wordOf_33 {st : List Value} {σ : am_H} {Q : Option Value → am_H → Prop} {x : Int32} : ax k_M_wordOf 33 [some (.int x)] st σ Q = ax k_M_wordOf 34 [some (.int x)] (.int x :: st) σ Q := ru_loc (q := (_, _)) f_M_wordOf_33 rfl rfl rfl
theorem f_M_wordOf_34 : am_cd k_M_wordOf 34 = some ((some .int), .bipush 100, (0, 0, 0, 0, 0, .null)) := rfl
theorem s_M_wordOf_34 {ls : am_L} {st : List Value} {σ : am_H} {Q : Option Value → am_H → Prop} : ax k_M_wordOf 34 ls st σ Q = ax k_M_wordOf 36 ls (.int 100 :: st) σ Q := ru_bipush f_M_wordOf_34 (by decide +kernel) rfl
theorem f_M_wordOf_36 : am_cd k_M_wordOf 36 = some ((some .int), .bipush 97, (0, 0, 0, 0, 0, .null)) := rfl
theorem s_M_wordOf_36 {ls : am_L} {st : List Value} {σ : am_H} {Q : Option Value → am_H → Prop} : ax k_M_wordOf 36 ls st σ Q = ax k_M_wordOf 38 ls (.int 97 :: st) σ Q := ru_bipush f_M_wordOf_36 (by decide +kernel) rfl
theorem f_M_wordOf_38 : am_cd k_M_wordOf 38 = some ((some .int), .bipush 121, (0, 0, 0, 0, 0, .null)) := rfl
theorem s_M_wordOf_38 {ls : am_L} {st : List Value} {σ : am_H} {Q : Option Value → am_H → Prop} : ax k_M_wordOf 38 ls st σ Q = ax k_M_wordOf 40 ls (.int 121 :: st) σ Q := ru_bipush f_M_wordOf_38 (by decide +kernel) rfl
theorem f_M_wordOf_40 : am_cd k_M_wordOf 40 = some ((some .int), .bipush 115, (0, 0, 0, 0, 0, .null)) := rfl
theorem s_M_wordOf_40 {ls : am_L} {st : List Value} {σ : am_H} {Q : Option Value → am_H → Prop} : ax k_M_wordOf 40 ls st σ Q = ax k_M_wordOf 42 ls (.int 115 :: st) σ Q := ru_bipush f_M_wordOf_40 (by decide +kernel) rfl
theorem f_M_wordOf_42 : am_cd k_M_wordOf 42 = some ((some .int), .invokestatic 238, (149, 4, 1265, 0, 11, .null)) := rfl
theorem s_M_wordOf_42 {ls : am_L} {st : List Value} {σ : am_H} {Q : Option Value → am_H → Prop} {p0 : Int32} {p1 : Int32} {p2 : Int32} {p3 : Int32} (h8 : am_s8 st) : ax k_M_wordOf 42 ls (.int p3 :: .int p2 :: .int p1 :: .int p0 :: st) σ Q = ax k_M_pack 0 [some (.int p0), some (.int p1), some (.int p2), some (.int p3)] [] σ (ax_k k_M_wordOf 45 ls st Q) := ru_sta (M' := rk_M_pack) f_M_wordOf_42 rfl (by decide) rfl (by simp) rfl h8 rfl rfl rfl rfl rfl
theorem f_M_wordOf_45 : am_cd k_M_wordOf 45 = some ((some .int), .if_icmp .ne 6, (51, 0, 0, 0, 0, .null)) := rfl
theorem s_M_wordOf_45 {ls : am_L} {st : List Value} {σ : am_H} {Q : Option Value → am_H → Prop} {x y : Int32} : ax k_M_wordOf 45 ls (.int y :: .int x :: st) σ Q = (if x = y then ax k_M_wordOf 48 ls st σ Q else ax k_M_wordOf 51 ls st σ Q) := (ru_icmp f_M_wordOf_45 rfl).trans (ru_i_ne _ _ _ _)
theorem f_M_wordOf_48 : am_cd k_M_wordOf 48 = some ((some .int), .bipush 6, (0, 0, 0, 0, 0, .null)) := rfl
theorem s_M_wordOf_48 {ls : am_L} {st : List Value} {σ : am_H} {Q : Option Value → am_H → Prop} : ax k_M_wordOf 48 ls st σ Q = ax k_M_wordOf 50 ls (.int 6 :: st) σ Q := ru_bipush f_M_wordOf_48 (by decide +kernel) rfl
theorem f_M_wordOf_50 : am_cd k_M_wordOf 50 = some ((some .int), .ireturn, (0, 0, 0, 0, 0, .null)) := rfl
theorem s_M_wordOf_50 {ls : am_L} {σ : am_H} {Q : Option Value → am_H → Prop} {v : Int32} : ax k_M_wordOf 50 ls [.int v] σ Q = Q (some (.int v)) σ := ru_iretI f_M_wordOf_50
theorem f_M_wordOf_51 : am_cd k_M_wordOf 51 = some ((some .int), .iload_n 0, (0, 0, 0, 0, 0, .null)) := rfl
theorem s_M_wordOf_51 {st : List Value} {σ : am_H} {Q : Option Value → am_H → Prop} {x : Int32} : ax k_M_wordOf 51 [some (.int x)] st σ Q = ax k_M_wordOf 52 [some (.int x)] (.int x :: st) σ Q := ru_loc (q := (_, _)) f_M_wordOf_51 rfl rfl rfl
theorem f_M_wordOf_52 : am_cd k_M_wordOf 52 = some ((some .int), .bipush 109, (0, 0, 0, 0, 0, .null)) := rfl
theorem s_M_wordOf_52 {ls : am_L} {st : List Value} {σ : am_H} {Q : Option Value → am_H → Prop} : ax k_M_wordOf 52 ls st σ Q = ax k_M_wordOf 54 ls (.int 109 :: st) σ Q := ru_bipush f_M_wordOf_52 (by decide +kernel) rfl
theorem f_M_wordOf_54 : am_cd k_M_wordOf 54 = some ((some .int), .bipush 111, (0, 0, 0, 0, 0, .null)) := rfl
theorem s_M_wordOf_54 {ls : am_L} {st : List Value} {σ : am_H} {Q : Option Value → am_H → Prop} : ax k_M_wordOf 54 ls st σ Q = ax k_M_wordOf 56 ls (.int 111 :: st) σ Q := ru_bipush f_M_wordOf_54 (by decide +kernel) rfl
theorem f_M_wordOf_56 : am_cd k_M_wordOf 56 = some ((some .int), .bipush 115, (0, 0, 0, 0, 0, .null)) := rfl
theorem s_M_wordOf_56 {ls : am_L} {st : List Value} {σ : am_H} {Q : Option Value → am_H → Prop} : ax k_M_wordOf 56 ls st σ Q = ax k_M_wordOf 58 ls (.int 115 :: st) σ Q := ru_bipush f_M_wordOf_56 (by decide +kernel) rfl
theorem f_M_wordOf_58 : am_cd k_M_wordOf 58 = some ((some .int), .bipush 116, (0, 0, 0, 0, 0, .null)) := rfl
theorem s_M_wordOf_58 {ls : am_L} {st : List Value} {σ : am_H} {Q : Option Value → am_H → Prop} : ax k_M_wordOf 58 ls st σ Q = ax k_M_wordOf 60 ls (.int 116 :: st) σ Q := ru_bipush f_M_wordOf_58 (by decide +kernel) rfl
theorem f_M_wordOf_60 : am_cd k_M_wordOf 60 = some ((some .int), .invokestatic 238, (149, 4, 1265, 0, 11, .null)) := rfl
theorem s_M_wordOf_60 {ls : am_L} {st : List Value} {σ : am_H} {Q : Option Value → am_H → Prop} {p0 : Int32} {p1 : Int32} {p2 : Int32} {p3 : Int32} (h8 : am_s8 st) : ax k_M_wordOf 60 ls (.int p3 :: .int p2 :: .int p1 :: .int p0 :: st) σ Q = ax k_M_pack 0 [some (.int p0), some (.int p1), some (.int p2), some (.int p3)] [] σ (ax_k k_M_wordOf 63 ls st Q) := ru_sta (M' := rk_M_pack) f_M_wordOf_60 rfl (by decide) rfl (by simp) rfl h8 rfl rfl rfl rfl rfl
theorem f_M_wordOf_63 : am_cd k_M_wordOf 63 = some ((some .int), .if_icmp .ne 6, (69, 0, 0, 0, 0, .null)) := rfl
theorem s_M_wordOf_63 {ls : am_L} {st : List Value} {σ : am_H} {Q : Option Value → am_H → Prop} {x y : Int32} : ax k_M_wordOf 63 ls (.int y :: .int x :: st) σ Q = (if x = y then ax k_M_wordOf 66 ls st σ Q else ax k_M_wordOf 69 ls st σ Q) := (ru_icmp f_M_wordOf_63 rfl).trans (ru_i_ne _ _ _ _)
theorem f_M_wordOf_66 : am_cd k_M_wordOf 66 = some ((some .int), .bipush 7, (0, 0, 0, 0, 0, .null)) := rfl
theorem s_M_wordOf_66 {ls : am_L} {st : List Value} {σ : am_H} {Q : Option Value → am_H → Prop} : ax k_M_wordOf 66 ls st σ Q = ax k_M_wordOf 68 ls (.int 7 :: st) σ Q := ru_bipush f_M_wordOf_66 (by decide +kernel) rfl
theorem f_M_wordOf_68 : am_cd k_M_wordOf 68 = some ((some .int), .ireturn, (0, 0, 0, 0, 0, .null)) := rfl
theorem s_M_wordOf_68 {ls : am_L} {σ : am_H} {Q : Option Value → am_H → Prop} {v : Int32} : ax k_M_wordOf 68 ls [.int v] σ Q = Q (some (.int v)) σ := ru_iretI f_M_wordOf_68
theorem f_M_wordOf_69 : am_cd k_M_wordOf 69 = some ((some .int), .iload_n 0, (0, 0, 0, 0, 0, .null)) := rfl
theorem s_M_wordOf_69 {st : List Value} {σ : am_H} {Q : Option Value → am_H → Prop} {x : Int32} : ax k_M_wordOf 69 [some (.int x)] st σ Q = ax k_M_wordOf 70 [some (.int x)] (.int x :: st) σ Q := ru_loc (q := (_, _)) f_M_wordOf_69 rfl rfl rfl
theorem f_M_wordOf_70 : am_cd k_M_wordOf 70 = some ((some .int), .iconst 0, (0, 0, 0, 0, 0, .null)) := rfl
theorem s_M_wordOf_70 {ls : am_L} {st : List Value} {σ : am_H} {Q : Option Value → am_H → Prop} : ax k_M_wordOf 70 ls st σ Q = ax k_M_wordOf 71 ls (.int 0 :: st) σ Q := ru_iconst f_M_wordOf_70 (by decide +kernel) rfl
theorem f_M_wordOf_71 : am_cd k_M_wordOf 71 = some ((some .int), .bipush 110, (0, 0, 0, 0, 0, .null)) := rfl
theorem s_M_wordOf_71 {ls : am_L} {st : List Value} {σ : am_H} {Q : Option Value → am_H → Prop} : ax k_M_wordOf 71 ls st σ Q = ax k_M_wordOf 73 ls (.int 110 :: st) σ Q := ru_bipush f_M_wordOf_71 (by decide +kernel) rfl
theorem f_M_wordOf_73 : am_cd k_M_wordOf 73 = some ((some .int), .bipush 111, (0, 0, 0, 0, 0, .null)) := rfl
theorem s_M_wordOf_73 {ls : am_L} {st : List Value} {σ : am_H} {Q : Option Value → am_H → Prop} : ax k_M_wordOf 73 ls st σ Q = ax k_M_wordOf 75 ls (.int 111 :: st) σ Q := ru_bipush f_M_wordOf_73 (by decide +kernel) rfl
theorem f_M_wordOf_75 : am_cd k_M_wordOf 75 = some ((some .int), .bipush 116, (0, 0, 0, 0, 0, .null)) := rfl
theorem s_M_wordOf_75 {ls : am_L} {st : List Value} {σ : am_H} {Q : Option Value → am_H → Prop} : ax k_M_wordOf 75 ls st σ Q = ax k_M_wordOf 77 ls (.int 116 :: st) σ Q := ru_bipush f_M_wordOf_75 (by decide +kernel) rfl
theorem f_M_wordOf_77 : am_cd k_M_wordOf 77 = some ((some .int), .invokestatic 238, (149, 4, 1265, 0, 11, .null)) := rfl
theorem s_M_wordOf_77 {ls : am_L} {st : List Value} {σ : am_H} {Q : Option Value → am_H → Prop} {p0 : Int32} {p1 : Int32} {p2 : Int32} {p3 : Int32} (h8 : am_s8 st) : ax k_M_wordOf 77 ls (.int p3 :: .int p2 :: .int p1 :: .int p0 :: st) σ Q = ax k_M_pack 0 [some (.int p0), some (.int p1), some (.int p2), some (.int p3)] [] σ (ax_k k_M_wordOf 80 ls st Q) := ru_sta (M' := rk_M_pack) f_M_wordOf_77 rfl (by decide) rfl (by simp) rfl h8 rfl rfl rfl rfl rfl
theorem f_M_wordOf_80 : am_cd k_M_wordOf 80 = some ((some .int), .if_icmp .ne 8, (88, 0, 0, 0, 0, .null)) := rfl
theorem s_M_wordOf_80 {ls : am_L} {st : List Value} {σ : am_H} {Q : Option Value → am_H → Prop} {x y : Int32} : ax k_M_wordOf 80 ls (.int y :: .int x :: st) σ Q = (if x = y then ax k_M_wordOf 83 ls st σ Q else ax k_M_wordOf 88 ls st σ Q) := (ru_icmp f_M_wordOf_80 rfl).trans (ru_i_ne _ _ _ _)
theorem f_M_wordOf_83 : am_cd k_M_wordOf 83 = some ((some .int), .bipush 8, (0, 0, 0, 0, 0, .null)) := rfl
theorem s_M_wordOf_83 {ls : am_L} {st : List Value} {σ : am_H} {Q : Option Value → am_H → Prop} : ax k_M_wordOf 83 ls st σ Q = ax k_M_wordOf 85 ls (.int 8 :: st) σ Q := ru_bipush f_M_wordOf_83 (by decide +kernel) rfl
theorem f_M_wordOf_85 : am_cd k_M_wordOf 85 = some ((some .int), .goto 4, (89, 0, 0, 0, 0, .null)) := rfl
theorem s_M_wordOf_85 {ls : am_L} {st : List Value} {σ : am_H} {Q : Option Value → am_H → Prop} : ax k_M_wordOf 85 ls st σ Q = ax k_M_wordOf 89 ls st σ Q := ru_goto f_M_wordOf_85
theorem f_M_wordOf_88 : am_cd k_M_wordOf 88 = some ((some .int), .iconst 3, (0, 0, 0, 0, 0, .null)) := rfl
theorem s_M_wordOf_88 {ls : am_L} {st : List Value} {σ : am_H} {Q : Option Value → am_H → Prop} : ax k_M_wordOf 88 ls st σ Q = ax k_M_wordOf 89 ls (.int 3 :: st) σ Q := ru_iconst f_M_wordOf_88 (by decide +kernel) rfl
theorem f_M_wordOf_89 : am_cd k_M_wordOf 89 = some ((some .int), .ireturn, (0, 0, 0, 0, 0, .null)) := rfl
theorem s_M_wordOf_89 {ls : am_L} {σ : am_H} {Q : Option Value → am_H → Prop} {v : Int32} : ax k_M_wordOf 89 ls [.int v] σ Q = Q (some (.int v)) σ := ru_iretI f_M_wordOf_89
theorem f_M_nextToken_0 : am_cd k_M_nextToken 0 = some (none, .aload_n 0, (0, 0, 0, 0, 0, .null)) := rfl
theorem s_M_nextToken_0 {a1 a2 : Option Value} {st : List Value} {σ : am_H} {Q : Option Value → am_H → Prop} {x : Nat} : ax k_M_nextToken 0 [some (.ref x), a1, a2] st σ Q = ax k_M_nextToken 1 [some (.ref x), a1, a2] (.ref x :: st) σ Q := ru_loc (q := (_, _)) f_M_nextToken_0 rfl rfl rfl
theorem f_M_nextToken_1 : am_cd k_M_nextToken 1 = some (none, .aload_n 0, (0, 0, 0, 0, 0, .null)) := rfl
theorem s_M_nextToken_1 {a1 a2 : Option Value} {st : List Value} {σ : am_H} {Q : Option Value → am_H → Prop} {x : Nat} : ax k_M_nextToken 1 [some (.ref x), a1, a2] st σ Q = ax k_M_nextToken 2 [some (.ref x), a1, a2] (.ref x :: st) σ Q := ru_loc (q := (_, _)) f_M_nextToken_1 rfl rfl rfl
theorem f_M_nextToken_2 : am_cd k_M_nextToken 2 = some (none, .getfield 242, (11, 40, 957, 0, 0, .null)) := rfl
theorem s_M_nextToken_2 {ls : am_L} {st : List Value} {σ : am_H} {Q : Option Value → am_H → Prop} {a : Nat} : ax k_M_nextToken 2 ls (.ref a :: st) σ Q = ax_f (am_fld σ a 11 40) (fun v => ax k_M_nextToken 5 ls (v :: st) σ Q) := ru_getf f_M_nextToken_2 rfl
theorem f_M_nextToken_5 : am_cd k_M_nextToken 5 = some (none, .invokevirtual 245, (146, 1, 1251, 0, 11, .null)) := rfl
theorem s_M_nextToken_5 {ls : am_L} {st : List Value} {σ : am_H} {Q : Option Value → am_H → Prop} {p0 : Int32} {b : Nat} (hi : am_is σ b 11) (h8 : am_s8 st) : ax k_M_nextToken 5 ls (.int p0 :: .ref b :: st) σ Q = ax k_M_see 0 [some (.ref b), some (.int p0)] [] σ (ax_k k_M_nextToken 8 ls st Q) := ru_vir (M' := rk_M_see) f_M_nextToken_5 rfl rfl rfl rfl hi h8 rfl rfl rfl rfl rfl
theorem f_M_nextToken_8 : am_cd k_M_nextToken 8 = some (none, .bipush 32, (0, 0, 0, 0, 0, .null)) := rfl
theorem s_M_nextToken_8 {ls : am_L} {st : List Value} {σ : am_H} {Q : Option Value → am_H → Prop} : ax k_M_nextToken 8 ls st σ Q = ax k_M_nextToken 10 ls (.int 32 :: st) σ Q := ru_bipush f_M_nextToken_8 (by decide +kernel) rfl
theorem f_M_nextToken_10 : am_cd k_M_nextToken 10 = some (none, .if_icmp .ne 16, (26, 0, 0, 0, 0, .null)) := rfl
theorem s_M_nextToken_10 {ls : am_L} {st : List Value} {σ : am_H} {Q : Option Value → am_H → Prop} {x y : Int32} : ax k_M_nextToken 10 ls (.int y :: .int x :: st) σ Q = (if x = y then ax k_M_nextToken 13 ls st σ Q else ax k_M_nextToken 26 ls st σ Q) := (ru_icmp f_M_nextToken_10 rfl).trans (ru_i_ne _ _ _ _)
theorem f_M_nextToken_13 : am_cd k_M_nextToken 13 = some (none, .aload_n 0, (0, 0, 0, 0, 0, .null)) := rfl
theorem s_M_nextToken_13 {a1 a2 : Option Value} {st : List Value} {σ : am_H} {Q : Option Value → am_H → Prop} {x : Nat} : ax k_M_nextToken 13 [some (.ref x), a1, a2] st σ Q = ax k_M_nextToken 14 [some (.ref x), a1, a2] (.ref x :: st) σ Q := ru_loc (q := (_, _)) f_M_nextToken_13 rfl rfl rfl
theorem f_M_nextToken_14 : am_cd k_M_nextToken 14 = some (none, .dup, (0, 0, 0, 0, 0, .null)) := rfl
theorem s_M_nextToken_14 {ls : am_L} {st : List Value} {σ : am_H} {Q : Option Value → am_H → Prop} {a : Nat} : ax k_M_nextToken 14 ls (.ref a :: st) σ Q = ax k_M_nextToken 15 ls (.ref a :: .ref a :: st) σ Q := ru_pure f_M_nextToken_14 rfl rfl
theorem f_M_nextToken_15 : am_cd k_M_nextToken 15 = some (none, .getfield 242, (11, 40, 957, 0, 0, .null)) := rfl
theorem s_M_nextToken_15 {ls : am_L} {st : List Value} {σ : am_H} {Q : Option Value → am_H → Prop} {a : Nat} : ax k_M_nextToken 15 ls (.ref a :: st) σ Q = ax_f (am_fld σ a 11 40) (fun v => ax k_M_nextToken 18 ls (v :: st) σ Q) := ru_getf f_M_nextToken_15 rfl
theorem f_M_nextToken_18 : am_cd k_M_nextToken 18 = some (none, .iconst 1, (0, 0, 0, 0, 0, .null)) := rfl
theorem s_M_nextToken_18 {ls : am_L} {st : List Value} {σ : am_H} {Q : Option Value → am_H → Prop} : ax k_M_nextToken 18 ls st σ Q = ax k_M_nextToken 19 ls (.int 1 :: st) σ Q := ru_iconst f_M_nextToken_18 (by decide +kernel) rfl
theorem f_M_nextToken_19 : am_cd k_M_nextToken 19 = some (none, .iadd, (0, 0, 0, 0, 0, .null)) := rfl
theorem s_M_nextToken_19 {ls : am_L} {st : List Value} {σ : am_H} {Q : Option Value → am_H → Prop} {x y : Int32} : ax k_M_nextToken 19 ls (.int y :: .int x :: st) σ Q = ax k_M_nextToken 20 ls (.int (x + y) :: st) σ Q := ru_pure f_M_nextToken_19 rfl rfl
theorem f_M_nextToken_20 : am_cd k_M_nextToken 20 = some (none, .putfield 242, (11, 40, 957, 0, 0, .null)) := rfl
theorem s_M_nextToken_20 {ls : am_L} {st : List Value} {σ : am_H} {Q : Option Value → am_H → Prop} {a : Nat} {v : Value} : ax k_M_nextToken 20 ls (v :: .ref a :: st) σ Q = ax_f (am_fld σ a 11 40) (fun _ => a < am_top ∧ am_okv 0 v = true ∧ ax k_M_nextToken 23 ls st (am_put σ a 40 v) Q) := ru_putf f_M_nextToken_20 rfl
theorem f_M_nextToken_23 : am_cd k_M_nextToken 23 = some (none, .goto (-23), (0, 0, 0, 0, 0, .null)) := rfl
theorem s_M_nextToken_23 {ls : am_L} {st : List Value} {σ : am_H} {Q : Option Value → am_H → Prop} : ax k_M_nextToken 23 ls st σ Q = ax k_M_nextToken 0 ls st σ Q := ru_goto f_M_nextToken_23
theorem f_M_nextToken_26 : am_cd k_M_nextToken 26 = some (none, .aload_n 0, (0, 0, 0, 0, 0, .null)) := rfl
theorem s_M_nextToken_26 {a1 a2 : Option Value} {st : List Value} {σ : am_H} {Q : Option Value → am_H → Prop} {x : Nat} : ax k_M_nextToken 26 [some (.ref x), a1, a2] st σ Q = ax k_M_nextToken 27 [some (.ref x), a1, a2] (.ref x :: st) σ Q := ru_loc (q := (_, _)) f_M_nextToken_26 rfl rfl rfl
theorem f_M_nextToken_27 : am_cd k_M_nextToken 27 = some (none, .aload_n 0, (0, 0, 0, 0, 0, .null)) := rfl
theorem s_M_nextToken_27 {a1 a2 : Option Value} {st : List Value} {σ : am_H} {Q : Option Value → am_H → Prop} {x : Nat} : ax k_M_nextToken 27 [some (.ref x), a1, a2] st σ Q = ax k_M_nextToken 28 [some (.ref x), a1, a2] (.ref x :: st) σ Q := ru_loc (q := (_, _)) f_M_nextToken_27 rfl rfl rfl
theorem f_M_nextToken_28 : am_cd k_M_nextToken 28 = some (none, .getfield 242, (11, 40, 957, 0, 0, .null)) := rfl
theorem s_M_nextToken_28 {ls : am_L} {st : List Value} {σ : am_H} {Q : Option Value → am_H → Prop} {a : Nat} : ax k_M_nextToken 28 ls (.ref a :: st) σ Q = ax_f (am_fld σ a 11 40) (fun v => ax k_M_nextToken 31 ls (v :: st) σ Q) := ru_getf f_M_nextToken_28 rfl
theorem f_M_nextToken_31 : am_cd k_M_nextToken 31 = some (none, .putfield 248, (11, 41, 958, 0, 0, .null)) := rfl
theorem s_M_nextToken_31 {ls : am_L} {st : List Value} {σ : am_H} {Q : Option Value → am_H → Prop} {a : Nat} {v : Value} : ax k_M_nextToken 31 ls (v :: .ref a :: st) σ Q = ax_f (am_fld σ a 11 41) (fun _ => a < am_top ∧ am_okv 0 v = true ∧ ax k_M_nextToken 34 ls st (am_put σ a 41 v) Q) := ru_putf f_M_nextToken_31 rfl
theorem f_M_nextToken_34 : am_cd k_M_nextToken 34 = some (none, .aload_n 0, (0, 0, 0, 0, 0, .null)) := rfl
theorem s_M_nextToken_34 {a1 a2 : Option Value} {st : List Value} {σ : am_H} {Q : Option Value → am_H → Prop} {x : Nat} : ax k_M_nextToken 34 [some (.ref x), a1, a2] st σ Q = ax k_M_nextToken 35 [some (.ref x), a1, a2] (.ref x :: st) σ Q := ru_loc (q := (_, _)) f_M_nextToken_34 rfl rfl rfl
theorem f_M_nextToken_35 : am_cd k_M_nextToken 35 = some (none, .aload_n 0, (0, 0, 0, 0, 0, .null)) := rfl
theorem s_M_nextToken_35 {a1 a2 : Option Value} {st : List Value} {σ : am_H} {Q : Option Value → am_H → Prop} {x : Nat} : ax k_M_nextToken 35 [some (.ref x), a1, a2] st σ Q = ax k_M_nextToken 36 [some (.ref x), a1, a2] (.ref x :: st) σ Q := ru_loc (q := (_, _)) f_M_nextToken_35 rfl rfl rfl
theorem f_M_nextToken_36 : am_cd k_M_nextToken 36 = some (none, .getfield 242, (11, 40, 957, 0, 0, .null)) := rfl
theorem s_M_nextToken_36 {ls : am_L} {st : List Value} {σ : am_H} {Q : Option Value → am_H → Prop} {a : Nat} : ax k_M_nextToken 36 ls (.ref a :: st) σ Q = ax_f (am_fld σ a 11 40) (fun v => ax k_M_nextToken 39 ls (v :: st) σ Q) := ru_getf f_M_nextToken_36 rfl
theorem f_M_nextToken_39 : am_cd k_M_nextToken 39 = some (none, .invokevirtual 245, (146, 1, 1251, 0, 11, .null)) := rfl
theorem s_M_nextToken_39 {ls : am_L} {st : List Value} {σ : am_H} {Q : Option Value → am_H → Prop} {p0 : Int32} {b : Nat} (hi : am_is σ b 11) (h8 : am_s8 st) : ax k_M_nextToken 39 ls (.int p0 :: .ref b :: st) σ Q = ax k_M_see 0 [some (.ref b), some (.int p0)] [] σ (ax_k k_M_nextToken 42 ls st Q) := ru_vir (M' := rk_M_see) f_M_nextToken_39 rfl rfl rfl rfl hi h8 rfl rfl rfl rfl rfl
theorem f_M_nextToken_42 : am_cd k_M_nextToken 42 = some (none, .istore_n 1, (0, 0, 0, 0, 0, .null)) := rfl
theorem s_M_nextToken_42 {a0 a1 a2 : Option Value} {st : List Value} {σ : am_H} {Q : Option Value → am_H → Prop} {x : Int32} (hc : am_c2 a0 = false) : ax k_M_nextToken 42 [a0, a1, a2] (.int x :: st) σ Q = ax k_M_nextToken 43 [a0, some (.int x), a2] st σ Q := ru_istore_n f_M_nextToken_42 (Nat.le_of_ble_eq_true rfl) (ru_st1 (Nat.le_of_ble_eq_true rfl) (am_clr_c2 hc rfl) rfl) rfl
theorem f_M_nextToken_43 : am_cd k_M_nextToken 43 = some (none, .iload_n 1, (0, 0, 0, 0, 0, .null)) := rfl
theorem s_M_nextToken_43 {a0 a2 : Option Value} {st : List Value} {σ : am_H} {Q : Option Value → am_H → Prop} {x : Int32} : ax k_M_nextToken 43 [a0, some (.int x), a2] st σ Q = ax k_M_nextToken 44 [a0, some (.int x), a2] (.int x :: st) σ Q := ru_loc (q := (_, _)) f_M_nextToken_43 rfl rfl rfl
theorem f_M_nextToken_44 : am_cd k_M_nextToken 44 = some (none, .ifCond .ge 11, (55, 0, 0, 0, 0, .null)) := rfl
theorem s_M_nextToken_44 {ls : am_L} {st : List Value} {σ : am_H} {Q : Option Value → am_H → Prop} {x : Int32} : ax k_M_nextToken 44 ls (.int x :: st) σ Q = (if x < 0 then ax k_M_nextToken 47 ls st σ Q else ax k_M_nextToken 55 ls st σ Q) := (ru_if f_M_nextToken_44 rfl).trans (ru_i_ge _ _ _ _)
theorem f_M_nextToken_47 : am_cd k_M_nextToken 47 = some (none, .aload_n 0, (0, 0, 0, 0, 0, .null)) := rfl
theorem s_M_nextToken_47 {a1 a2 : Option Value} {st : List Value} {σ : am_H} {Q : Option Value → am_H → Prop} {x : Nat} : ax k_M_nextToken 47 [some (.ref x), a1, a2] st σ Q = ax k_M_nextToken 48 [some (.ref x), a1, a2] (.ref x :: st) σ Q := ru_loc (q := (_, _)) f_M_nextToken_47 rfl rfl rfl
theorem f_M_nextToken_48 : am_cd k_M_nextToken 48 = some (none, .iconst 0, (0, 0, 0, 0, 0, .null)) := rfl
theorem s_M_nextToken_48 {ls : am_L} {st : List Value} {σ : am_H} {Q : Option Value → am_H → Prop} : ax k_M_nextToken 48 ls st σ Q = ax k_M_nextToken 49 ls (.int 0 :: st) σ Q := ru_iconst f_M_nextToken_48 (by decide +kernel) rfl
theorem f_M_nextToken_49 : am_cd k_M_nextToken 49 = some (none, .putfield 251, (11, 42, 959, 0, 0, .null)) := rfl
theorem s_M_nextToken_49 {ls : am_L} {st : List Value} {σ : am_H} {Q : Option Value → am_H → Prop} {a : Nat} {v : Value} : ax k_M_nextToken 49 ls (v :: .ref a :: st) σ Q = ax_f (am_fld σ a 11 42) (fun _ => a < am_top ∧ am_okv 0 v = true ∧ ax k_M_nextToken 52 ls st (am_put σ a 42 v) Q) := ru_putf f_M_nextToken_49 rfl
theorem f_M_nextToken_52 : am_cd k_M_nextToken 52 = some (none, .goto 196, (248, 0, 0, 0, 0, .null)) := rfl
theorem s_M_nextToken_52 {ls : am_L} {st : List Value} {σ : am_H} {Q : Option Value → am_H → Prop} : ax k_M_nextToken 52 ls st σ Q = ax k_M_nextToken 248 ls st σ Q := ru_goto f_M_nextToken_52
theorem f_M_nextToken_55 : am_cd k_M_nextToken 55 = some (none, .iload_n 1, (0, 0, 0, 0, 0, .null)) := rfl
theorem s_M_nextToken_55 {a0 a2 : Option Value} {st : List Value} {σ : am_H} {Q : Option Value → am_H → Prop} {x : Int32} : ax k_M_nextToken 55 [a0, some (.int x), a2] st σ Q = ax k_M_nextToken 56 [a0, some (.int x), a2] (.int x :: st) σ Q := ru_loc (q := (_, _)) f_M_nextToken_55 rfl rfl rfl
theorem f_M_nextToken_56 : am_cd k_M_nextToken 56 = some (none, .invokestatic 254, (148, 1, 1255, 0, 11, .null)) := rfl
theorem s_M_nextToken_56 {ls : am_L} {st : List Value} {σ : am_H} {Q : Option Value → am_H → Prop} {p0 : Int32} (h8 : am_s8 st) : ax k_M_nextToken 56 ls (.int p0 :: st) σ Q = ax k_M_isDigit 0 [some (.int p0)] [] σ (ax_k k_M_nextToken 59 ls st Q) := ru_sta (M' := rk_M_isDigit) f_M_nextToken_56 rfl (by decide) rfl (by simp) rfl h8 rfl rfl rfl rfl rfl
theorem f_M_nextToken_59 : am_cd k_M_nextToken 59 = some (none, .ifCond .eq 73, (132, 0, 0, 0, 0, .null)) := rfl
theorem s_M_nextToken_59 {ls : am_L} {st : List Value} {σ : am_H} {Q : Option Value → am_H → Prop} {x : Int32} : ax k_M_nextToken 59 ls (.int x :: st) σ Q = (if x = 0 then ax k_M_nextToken 132 ls st σ Q else ax k_M_nextToken 62 ls st σ Q) := (ru_if f_M_nextToken_59 rfl).trans (ru_i_eq _ _ _ _)
theorem f_M_nextToken_62 : am_cd k_M_nextToken 62 = some (none, .aload_n 0, (0, 0, 0, 0, 0, .null)) := rfl
theorem s_M_nextToken_62 {a1 a2 : Option Value} {st : List Value} {σ : am_H} {Q : Option Value → am_H → Prop} {x : Nat} : ax k_M_nextToken 62 [some (.ref x), a1, a2] st σ Q = ax k_M_nextToken 63 [some (.ref x), a1, a2] (.ref x :: st) σ Q := ru_loc (q := (_, _)) f_M_nextToken_62 rfl rfl rfl
theorem f_M_nextToken_63 : am_cd k_M_nextToken 63 = some (none, .iconst 1, (0, 0, 0, 0, 0, .null)) := rfl
theorem s_M_nextToken_63 {ls : am_L} {st : List Value} {σ : am_H} {Q : Option Value → am_H → Prop} : ax k_M_nextToken 63 ls st σ Q = ax k_M_nextToken 64 ls (.int 1 :: st) σ Q := ru_iconst f_M_nextToken_63 (by decide +kernel) rfl
theorem f_M_nextToken_64 : am_cd k_M_nextToken 64 = some (none, .putfield 251, (11, 42, 959, 0, 0, .null)) := rfl
theorem s_M_nextToken_64 {ls : am_L} {st : List Value} {σ : am_H} {Q : Option Value → am_H → Prop} {a : Nat} {v : Value} : ax k_M_nextToken 64 ls (v :: .ref a :: st) σ Q = ax_f (am_fld σ a 11 42) (fun _ => a < am_top ∧ am_okv 0 v = true ∧ ax k_M_nextToken 67 ls st (am_put σ a 42 v) Q) := ru_putf f_M_nextToken_64 rfl
theorem f_M_nextToken_67 : am_cd k_M_nextToken 67 = some (none, .aload_n 0, (0, 0, 0, 0, 0, .null)) := rfl
theorem s_M_nextToken_67 {a1 a2 : Option Value} {st : List Value} {σ : am_H} {Q : Option Value → am_H → Prop} {x : Nat} : ax k_M_nextToken 67 [some (.ref x), a1, a2] st σ Q = ax k_M_nextToken 68 [some (.ref x), a1, a2] (.ref x :: st) σ Q := ru_loc (q := (_, _)) f_M_nextToken_67 rfl rfl rfl
theorem f_M_nextToken_68 : am_cd k_M_nextToken 68 = some (none, .iconst 0, (0, 0, 0, 0, 0, .null)) := rfl
theorem s_M_nextToken_68 {ls : am_L} {st : List Value} {σ : am_H} {Q : Option Value → am_H → Prop} : ax k_M_nextToken 68 ls st σ Q = ax k_M_nextToken 69 ls (.int 0 :: st) σ Q := ru_iconst f_M_nextToken_68 (by decide +kernel) rfl
theorem f_M_nextToken_69 : am_cd k_M_nextToken 69 = some (none, .putfield 257, (11, 43, 960, 0, 0, .null)) := rfl
theorem s_M_nextToken_69 {ls : am_L} {st : List Value} {σ : am_H} {Q : Option Value → am_H → Prop} {a : Nat} {v : Value} : ax k_M_nextToken 69 ls (v :: .ref a :: st) σ Q = ax_f (am_fld σ a 11 43) (fun _ => a < am_top ∧ am_okv 0 v = true ∧ ax k_M_nextToken 72 ls st (am_put σ a 43 v) Q) := ru_putf f_M_nextToken_69 rfl
theorem f_M_nextToken_72 : am_cd k_M_nextToken 72 = some (none, .aload_n 0, (0, 0, 0, 0, 0, .null)) := rfl
theorem s_M_nextToken_72 {a1 a2 : Option Value} {st : List Value} {σ : am_H} {Q : Option Value → am_H → Prop} {x : Nat} : ax k_M_nextToken 72 [some (.ref x), a1, a2] st σ Q = ax k_M_nextToken 73 [some (.ref x), a1, a2] (.ref x :: st) σ Q := ru_loc (q := (_, _)) f_M_nextToken_72 rfl rfl rfl
theorem f_M_nextToken_73 : am_cd k_M_nextToken 73 = some (none, .aload_n 0, (0, 0, 0, 0, 0, .null)) := rfl
theorem s_M_nextToken_73 {a1 a2 : Option Value} {st : List Value} {σ : am_H} {Q : Option Value → am_H → Prop} {x : Nat} : ax k_M_nextToken 73 [some (.ref x), a1, a2] st σ Q = ax k_M_nextToken 74 [some (.ref x), a1, a2] (.ref x :: st) σ Q := ru_loc (q := (_, _)) f_M_nextToken_73 rfl rfl rfl
theorem f_M_nextToken_74 : am_cd k_M_nextToken 74 = some (none, .getfield 242, (11, 40, 957, 0, 0, .null)) := rfl
theorem s_M_nextToken_74 {ls : am_L} {st : List Value} {σ : am_H} {Q : Option Value → am_H → Prop} {a : Nat} : ax k_M_nextToken 74 ls (.ref a :: st) σ Q = ax_f (am_fld σ a 11 40) (fun v => ax k_M_nextToken 77 ls (v :: st) σ Q) := ru_getf f_M_nextToken_74 rfl
theorem f_M_nextToken_77 : am_cd k_M_nextToken 77 = some (none, .invokevirtual 245, (146, 1, 1251, 0, 11, .null)) := rfl
theorem s_M_nextToken_77 {ls : am_L} {st : List Value} {σ : am_H} {Q : Option Value → am_H → Prop} {p0 : Int32} {b : Nat} (hi : am_is σ b 11) (h8 : am_s8 st) : ax k_M_nextToken 77 ls (.int p0 :: .ref b :: st) σ Q = ax k_M_see 0 [some (.ref b), some (.int p0)] [] σ (ax_k k_M_nextToken 80 ls st Q) := ru_vir (M' := rk_M_see) f_M_nextToken_77 rfl rfl rfl rfl hi h8 rfl rfl rfl rfl rfl
theorem f_M_nextToken_80 : am_cd k_M_nextToken 80 = some (none, .invokestatic 254, (148, 1, 1255, 0, 11, .null)) := rfl
theorem s_M_nextToken_80 {ls : am_L} {st : List Value} {σ : am_H} {Q : Option Value → am_H → Prop} {p0 : Int32} (h8 : am_s8 st) : ax k_M_nextToken 80 ls (.int p0 :: st) σ Q = ax k_M_isDigit 0 [some (.int p0)] [] σ (ax_k k_M_nextToken 83 ls st Q) := ru_sta (M' := rk_M_isDigit) f_M_nextToken_80 rfl (by decide) rfl (by simp) rfl h8 rfl rfl rfl rfl rfl
theorem f_M_nextToken_83 : am_cd k_M_nextToken 83 = some (none, .ifCond .eq 165, (248, 0, 0, 0, 0, .null)) := rfl
theorem s_M_nextToken_83 {ls : am_L} {st : List Value} {σ : am_H} {Q : Option Value → am_H → Prop} {x : Int32} : ax k_M_nextToken 83 ls (.int x :: st) σ Q = (if x = 0 then ax k_M_nextToken 248 ls st σ Q else ax k_M_nextToken 86 ls st σ Q) := (ru_if f_M_nextToken_83 rfl).trans (ru_i_eq _ _ _ _)
theorem f_M_nextToken_86 : am_cd k_M_nextToken 86 = some (none, .aload_n 0, (0, 0, 0, 0, 0, .null)) := rfl
theorem s_M_nextToken_86 {a1 a2 : Option Value} {st : List Value} {σ : am_H} {Q : Option Value → am_H → Prop} {x : Nat} : ax k_M_nextToken 86 [some (.ref x), a1, a2] st σ Q = ax k_M_nextToken 87 [some (.ref x), a1, a2] (.ref x :: st) σ Q := ru_loc (q := (_, _)) f_M_nextToken_86 rfl rfl rfl
theorem f_M_nextToken_87 : am_cd k_M_nextToken 87 = some (none, .getfield 257, (11, 43, 960, 0, 0, .null)) := rfl
theorem s_M_nextToken_87 {ls : am_L} {st : List Value} {σ : am_H} {Q : Option Value → am_H → Prop} {a : Nat} : ax k_M_nextToken 87 ls (.ref a :: st) σ Q = ax_f (am_fld σ a 11 43) (fun v => ax k_M_nextToken 90 ls (v :: st) σ Q) := ru_getf f_M_nextToken_87 rfl
theorem f_M_nextToken_90 : am_cd k_M_nextToken 90 = some (none, .ldc_w 260, (0, 0, 1258, 0, 0, .int (1000000))) := rfl
theorem s_M_nextToken_90 {ls : am_L} {st : List Value} {σ : am_H} {Q : Option Value → am_H → Prop} : ax k_M_nextToken 90 ls st σ Q = ax k_M_nextToken 93 ls (.int (1000000) :: st) σ Q := ru_rd f_M_nextToken_90 rfl rfl rfl rfl rfl
theorem f_M_nextToken_93 : am_cd k_M_nextToken 93 = some (none, .if_icmp .ge 26, (119, 0, 0, 0, 0, .null)) := rfl
theorem s_M_nextToken_93 {ls : am_L} {st : List Value} {σ : am_H} {Q : Option Value → am_H → Prop} {x y : Int32} : ax k_M_nextToken 93 ls (.int y :: .int x :: st) σ Q = (if x < y then ax k_M_nextToken 96 ls st σ Q else ax k_M_nextToken 119 ls st σ Q) := (ru_icmp f_M_nextToken_93 rfl).trans (ru_i_ge _ _ _ _)
theorem f_M_nextToken_96 : am_cd k_M_nextToken 96 = some (none, .aload_n 0, (0, 0, 0, 0, 0, .null)) := rfl
theorem s_M_nextToken_96 {a1 a2 : Option Value} {st : List Value} {σ : am_H} {Q : Option Value → am_H → Prop} {x : Nat} : ax k_M_nextToken 96 [some (.ref x), a1, a2] st σ Q = ax k_M_nextToken 97 [some (.ref x), a1, a2] (.ref x :: st) σ Q := ru_loc (q := (_, _)) f_M_nextToken_96 rfl rfl rfl
theorem f_M_nextToken_97 : am_cd k_M_nextToken 97 = some (none, .bipush 10, (0, 0, 0, 0, 0, .null)) := rfl
theorem s_M_nextToken_97 {ls : am_L} {st : List Value} {σ : am_H} {Q : Option Value → am_H → Prop} : ax k_M_nextToken 97 ls st σ Q = ax k_M_nextToken 99 ls (.int 10 :: st) σ Q := ru_bipush f_M_nextToken_97 (by decide +kernel) rfl
theorem f_M_nextToken_99 : am_cd k_M_nextToken 99 = some (none, .aload_n 0, (0, 0, 0, 0, 0, .null)) := rfl
theorem s_M_nextToken_99 {a1 a2 : Option Value} {st : List Value} {σ : am_H} {Q : Option Value → am_H → Prop} {x : Nat} : ax k_M_nextToken 99 [some (.ref x), a1, a2] st σ Q = ax k_M_nextToken 100 [some (.ref x), a1, a2] (.ref x :: st) σ Q := ru_loc (q := (_, _)) f_M_nextToken_99 rfl rfl rfl
theorem f_M_nextToken_100 : am_cd k_M_nextToken 100 = some (none, .getfield 257, (11, 43, 960, 0, 0, .null)) := rfl
theorem s_M_nextToken_100 {ls : am_L} {st : List Value} {σ : am_H} {Q : Option Value → am_H → Prop} {a : Nat} : ax k_M_nextToken 100 ls (.ref a :: st) σ Q = ax_f (am_fld σ a 11 43) (fun v => ax k_M_nextToken 103 ls (v :: st) σ Q) := ru_getf f_M_nextToken_100 rfl
theorem f_M_nextToken_103 : am_cd k_M_nextToken 103 = some (none, .imul, (0, 0, 0, 0, 0, .null)) := rfl
theorem s_M_nextToken_103 {ls : am_L} {st : List Value} {σ : am_H} {Q : Option Value → am_H → Prop} {x y : Int32} : ax k_M_nextToken 103 ls (.int y :: .int x :: st) σ Q = ax k_M_nextToken 104 ls (.int (x * y) :: st) σ Q := ru_pure f_M_nextToken_103 rfl rfl
theorem f_M_nextToken_104 : am_cd k_M_nextToken 104 = some (none, .aload_n 0, (0, 0, 0, 0, 0, .null)) := rfl
theorem s_M_nextToken_104 {a1 a2 : Option Value} {st : List Value} {σ : am_H} {Q : Option Value → am_H → Prop} {x : Nat} : ax k_M_nextToken 104 [some (.ref x), a1, a2] st σ Q = ax k_M_nextToken 105 [some (.ref x), a1, a2] (.ref x :: st) σ Q := ru_loc (q := (_, _)) f_M_nextToken_104 rfl rfl rfl
theorem f_M_nextToken_105 : am_cd k_M_nextToken 105 = some (none, .aload_n 0, (0, 0, 0, 0, 0, .null)) := rfl
theorem s_M_nextToken_105 {a1 a2 : Option Value} {st : List Value} {σ : am_H} {Q : Option Value → am_H → Prop} {x : Nat} : ax k_M_nextToken 105 [some (.ref x), a1, a2] st σ Q = ax k_M_nextToken 106 [some (.ref x), a1, a2] (.ref x :: st) σ Q := ru_loc (q := (_, _)) f_M_nextToken_105 rfl rfl rfl
theorem f_M_nextToken_106 : am_cd k_M_nextToken 106 = some (none, .getfield 242, (11, 40, 957, 0, 0, .null)) := rfl
theorem s_M_nextToken_106 {ls : am_L} {st : List Value} {σ : am_H} {Q : Option Value → am_H → Prop} {a : Nat} : ax k_M_nextToken 106 ls (.ref a :: st) σ Q = ax_f (am_fld σ a 11 40) (fun v => ax k_M_nextToken 109 ls (v :: st) σ Q) := ru_getf f_M_nextToken_106 rfl
theorem f_M_nextToken_109 : am_cd k_M_nextToken 109 = some (none, .invokevirtual 245, (146, 1, 1251, 0, 11, .null)) := rfl
theorem s_M_nextToken_109 {ls : am_L} {st : List Value} {σ : am_H} {Q : Option Value → am_H → Prop} {p0 : Int32} {b : Nat} (hi : am_is σ b 11) (h8 : am_s8 st) : ax k_M_nextToken 109 ls (.int p0 :: .ref b :: st) σ Q = ax k_M_see 0 [some (.ref b), some (.int p0)] [] σ (ax_k k_M_nextToken 112 ls st Q) := ru_vir (M' := rk_M_see) f_M_nextToken_109 rfl rfl rfl rfl hi h8 rfl rfl rfl rfl rfl
theorem f_M_nextToken_112 : am_cd k_M_nextToken 112 = some (none, .iadd, (0, 0, 0, 0, 0, .null)) := rfl
theorem s_M_nextToken_112 {ls : am_L} {st : List Value} {σ : am_H} {Q : Option Value → am_H → Prop} {x y : Int32} : ax k_M_nextToken 112 ls (.int y :: .int x :: st) σ Q = ax k_M_nextToken 113 ls (.int (x + y) :: st) σ Q := ru_pure f_M_nextToken_112 rfl rfl
theorem f_M_nextToken_113 : am_cd k_M_nextToken 113 = some (none, .bipush 48, (0, 0, 0, 0, 0, .null)) := rfl
theorem s_M_nextToken_113 {ls : am_L} {st : List Value} {σ : am_H} {Q : Option Value → am_H → Prop} : ax k_M_nextToken 113 ls st σ Q = ax k_M_nextToken 115 ls (.int 48 :: st) σ Q := ru_bipush f_M_nextToken_113 (by decide +kernel) rfl
theorem f_M_nextToken_115 : am_cd k_M_nextToken 115 = some (none, .isub, (0, 0, 0, 0, 0, .null)) := rfl
theorem s_M_nextToken_115 {ls : am_L} {st : List Value} {σ : am_H} {Q : Option Value → am_H → Prop} {x y : Int32} : ax k_M_nextToken 115 ls (.int y :: .int x :: st) σ Q = ax k_M_nextToken 116 ls (.int (x - y) :: st) σ Q := ru_pure f_M_nextToken_115 rfl rfl
theorem f_M_nextToken_116 : am_cd k_M_nextToken 116 = some (none, .putfield 257, (11, 43, 960, 0, 0, .null)) := rfl
theorem s_M_nextToken_116 {ls : am_L} {st : List Value} {σ : am_H} {Q : Option Value → am_H → Prop} {a : Nat} {v : Value} : ax k_M_nextToken 116 ls (v :: .ref a :: st) σ Q = ax_f (am_fld σ a 11 43) (fun _ => a < am_top ∧ am_okv 0 v = true ∧ ax k_M_nextToken 119 ls st (am_put σ a 43 v) Q) := ru_putf f_M_nextToken_116 rfl
theorem f_M_nextToken_119 : am_cd k_M_nextToken 119 = some (none, .aload_n 0, (0, 0, 0, 0, 0, .null)) := rfl
theorem s_M_nextToken_119 {a1 a2 : Option Value} {st : List Value} {σ : am_H} {Q : Option Value → am_H → Prop} {x : Nat} : ax k_M_nextToken 119 [some (.ref x), a1, a2] st σ Q = ax k_M_nextToken 120 [some (.ref x), a1, a2] (.ref x :: st) σ Q := ru_loc (q := (_, _)) f_M_nextToken_119 rfl rfl rfl
theorem f_M_nextToken_120 : am_cd k_M_nextToken 120 = some (none, .dup, (0, 0, 0, 0, 0, .null)) := rfl
theorem s_M_nextToken_120 {ls : am_L} {st : List Value} {σ : am_H} {Q : Option Value → am_H → Prop} {a : Nat} : ax k_M_nextToken 120 ls (.ref a :: st) σ Q = ax k_M_nextToken 121 ls (.ref a :: .ref a :: st) σ Q := ru_pure f_M_nextToken_120 rfl rfl
theorem f_M_nextToken_121 : am_cd k_M_nextToken 121 = some (none, .getfield 242, (11, 40, 957, 0, 0, .null)) := rfl
theorem s_M_nextToken_121 {ls : am_L} {st : List Value} {σ : am_H} {Q : Option Value → am_H → Prop} {a : Nat} : ax k_M_nextToken 121 ls (.ref a :: st) σ Q = ax_f (am_fld σ a 11 40) (fun v => ax k_M_nextToken 124 ls (v :: st) σ Q) := ru_getf f_M_nextToken_121 rfl
theorem f_M_nextToken_124 : am_cd k_M_nextToken 124 = some (none, .iconst 1, (0, 0, 0, 0, 0, .null)) := rfl
theorem s_M_nextToken_124 {ls : am_L} {st : List Value} {σ : am_H} {Q : Option Value → am_H → Prop} : ax k_M_nextToken 124 ls st σ Q = ax k_M_nextToken 125 ls (.int 1 :: st) σ Q := ru_iconst f_M_nextToken_124 (by decide +kernel) rfl
theorem f_M_nextToken_125 : am_cd k_M_nextToken 125 = some (none, .iadd, (0, 0, 0, 0, 0, .null)) := rfl
theorem s_M_nextToken_125 {ls : am_L} {st : List Value} {σ : am_H} {Q : Option Value → am_H → Prop} {x y : Int32} : ax k_M_nextToken 125 ls (.int y :: .int x :: st) σ Q = ax k_M_nextToken 126 ls (.int (x + y) :: st) σ Q := ru_pure f_M_nextToken_125 rfl rfl
theorem f_M_nextToken_126 : am_cd k_M_nextToken 126 = some (none, .putfield 242, (11, 40, 957, 0, 0, .null)) := rfl
theorem s_M_nextToken_126 {ls : am_L} {st : List Value} {σ : am_H} {Q : Option Value → am_H → Prop} {a : Nat} {v : Value} : ax k_M_nextToken 126 ls (v :: .ref a :: st) σ Q = ax_f (am_fld σ a 11 40) (fun _ => a < am_top ∧ am_okv 0 v = true ∧ ax k_M_nextToken 129 ls st (am_put σ a 40 v) Q) := ru_putf f_M_nextToken_126 rfl
theorem f_M_nextToken_129 : am_cd k_M_nextToken 129 = some (none, .goto (-57), (72, 0, 0, 0, 0, .null)) := rfl
theorem s_M_nextToken_129 {ls : am_L} {st : List Value} {σ : am_H} {Q : Option Value → am_H → Prop} : ax k_M_nextToken 129 ls st σ Q = ax k_M_nextToken 72 ls st σ Q := ru_goto f_M_nextToken_129
theorem f_M_nextToken_132 : am_cd k_M_nextToken 132 = some (none, .iload_n 1, (0, 0, 0, 0, 0, .null)) := rfl
theorem s_M_nextToken_132 {a0 a2 : Option Value} {st : List Value} {σ : am_H} {Q : Option Value → am_H → Prop} {x : Int32} : ax k_M_nextToken 132 [a0, some (.int x), a2] st σ Q = ax k_M_nextToken 133 [a0, some (.int x), a2] (.int x :: st) σ Q := ru_loc (q := (_, _)) f_M_nextToken_132 rfl rfl rfl
theorem f_M_nextToken_133 : am_cd k_M_nextToken 133 = some (none, .invokestatic 261, (147, 1, 1259, 0, 11, .null)) := rfl
theorem s_M_nextToken_133 {ls : am_L} {st : List Value} {σ : am_H} {Q : Option Value → am_H → Prop} {p0 : Int32} (h8 : am_s8 st) : ax k_M_nextToken 133 ls (.int p0 :: st) σ Q = ax k_M_isLetter 0 [some (.int p0)] [] σ (ax_k k_M_nextToken 136 ls st Q) := ru_sta (M' := rk_M_isLetter) f_M_nextToken_133 rfl (by decide) rfl (by simp) rfl h8 rfl rfl rfl rfl rfl
theorem f_M_nextToken_136 : am_cd k_M_nextToken 136 = some (none, .ifCond .eq 87, (223, 0, 0, 0, 0, .null)) := rfl
theorem s_M_nextToken_136 {ls : am_L} {st : List Value} {σ : am_H} {Q : Option Value → am_H → Prop} {x : Int32} : ax k_M_nextToken 136 ls (.int x :: st) σ Q = (if x = 0 then ax k_M_nextToken 223 ls st σ Q else ax k_M_nextToken 139 ls st σ Q) := (ru_if f_M_nextToken_136 rfl).trans (ru_i_eq _ _ _ _)
theorem f_M_nextToken_139 : am_cd k_M_nextToken 139 = some (none, .iconst 0, (0, 0, 0, 0, 0, .null)) := rfl
theorem s_M_nextToken_139 {ls : am_L} {st : List Value} {σ : am_H} {Q : Option Value → am_H → Prop} : ax k_M_nextToken 139 ls st σ Q = ax k_M_nextToken 140 ls (.int 0 :: st) σ Q := ru_iconst f_M_nextToken_139 (by decide +kernel) rfl
theorem f_M_nextToken_140 : am_cd k_M_nextToken 140 = some (none, .istore_n 2, (0, 0, 0, 0, 0, .null)) := rfl
theorem s_M_nextToken_140 {a0 a1 a2 : Option Value} {st : List Value} {σ : am_H} {Q : Option Value → am_H → Prop} {x : Int32} (hc : am_c2 a1 = false) : ax k_M_nextToken 140 [a0, a1, a2] (.int x :: st) σ Q = ax k_M_nextToken 141 [a0, a1, some (.int x)] st σ Q := ru_istore_n f_M_nextToken_140 (Nat.le_of_ble_eq_true rfl) (ru_st1 (Nat.le_of_ble_eq_true rfl) (am_clr_c2 hc rfl) rfl) rfl
theorem f_M_nextToken_141 : am_cd k_M_nextToken 141 = some (none, .aload_n 0, (0, 0, 0, 0, 0, .null)) := rfl
theorem s_M_nextToken_141 {a1 a2 : Option Value} {st : List Value} {σ : am_H} {Q : Option Value → am_H → Prop} {x : Nat} : ax k_M_nextToken 141 [some (.ref x), a1, a2] st σ Q = ax k_M_nextToken 142 [some (.ref x), a1, a2] (.ref x :: st) σ Q := ru_loc (q := (_, _)) f_M_nextToken_141 rfl rfl rfl
theorem f_M_nextToken_142 : am_cd k_M_nextToken 142 = some (none, .aload_n 0, (0, 0, 0, 0, 0, .null)) := rfl
theorem s_M_nextToken_142 {a1 a2 : Option Value} {st : List Value} {σ : am_H} {Q : Option Value → am_H → Prop} {x : Nat} : ax k_M_nextToken 142 [some (.ref x), a1, a2] st σ Q = ax k_M_nextToken 143 [some (.ref x), a1, a2] (.ref x :: st) σ Q := ru_loc (q := (_, _)) f_M_nextToken_142 rfl rfl rfl
theorem f_M_nextToken_143 : am_cd k_M_nextToken 143 = some (none, .getfield 242, (11, 40, 957, 0, 0, .null)) := rfl
theorem s_M_nextToken_143 {ls : am_L} {st : List Value} {σ : am_H} {Q : Option Value → am_H → Prop} {a : Nat} : ax k_M_nextToken 143 ls (.ref a :: st) σ Q = ax_f (am_fld σ a 11 40) (fun v => ax k_M_nextToken 146 ls (v :: st) σ Q) := ru_getf f_M_nextToken_143 rfl
theorem f_M_nextToken_146 : am_cd k_M_nextToken 146 = some (none, .invokevirtual 245, (146, 1, 1251, 0, 11, .null)) := rfl
theorem s_M_nextToken_146 {ls : am_L} {st : List Value} {σ : am_H} {Q : Option Value → am_H → Prop} {p0 : Int32} {b : Nat} (hi : am_is σ b 11) (h8 : am_s8 st) : ax k_M_nextToken 146 ls (.int p0 :: .ref b :: st) σ Q = ax k_M_see 0 [some (.ref b), some (.int p0)] [] σ (ax_k k_M_nextToken 149 ls st Q) := ru_vir (M' := rk_M_see) f_M_nextToken_146 rfl rfl rfl rfl hi h8 rfl rfl rfl rfl rfl
theorem f_M_nextToken_149 : am_cd k_M_nextToken 149 = some (none, .invokestatic 261, (147, 1, 1259, 0, 11, .null)) := rfl
theorem s_M_nextToken_149 {ls : am_L} {st : List Value} {σ : am_H} {Q : Option Value → am_H → Prop} {p0 : Int32} (h8 : am_s8 st) : ax k_M_nextToken 149 ls (.int p0 :: st) σ Q = ax k_M_isLetter 0 [some (.int p0)] [] σ (ax_k k_M_nextToken 152 ls st Q) := ru_sta (M' := rk_M_isLetter) f_M_nextToken_149 rfl (by decide) rfl (by simp) rfl h8 rfl rfl rfl rfl rfl
theorem f_M_nextToken_152 : am_cd k_M_nextToken 152 = some (none, .ifCond .eq 43, (195, 0, 0, 0, 0, .null)) := rfl
theorem s_M_nextToken_152 {ls : am_L} {st : List Value} {σ : am_H} {Q : Option Value → am_H → Prop} {x : Int32} : ax k_M_nextToken 152 ls (.int x :: st) σ Q = (if x = 0 then ax k_M_nextToken 195 ls st σ Q else ax k_M_nextToken 155 ls st σ Q) := (ru_if f_M_nextToken_152 rfl).trans (ru_i_eq _ _ _ _)
theorem f_M_nextToken_155 : am_cd k_M_nextToken 155 = some (none, .aload_n 0, (0, 0, 0, 0, 0, .null)) := rfl
theorem s_M_nextToken_155 {a1 a2 : Option Value} {st : List Value} {σ : am_H} {Q : Option Value → am_H → Prop} {x : Nat} : ax k_M_nextToken 155 [some (.ref x), a1, a2] st σ Q = ax k_M_nextToken 156 [some (.ref x), a1, a2] (.ref x :: st) σ Q := ru_loc (q := (_, _)) f_M_nextToken_155 rfl rfl rfl
theorem f_M_nextToken_156 : am_cd k_M_nextToken 156 = some (none, .getfield 242, (11, 40, 957, 0, 0, .null)) := rfl
theorem s_M_nextToken_156 {ls : am_L} {st : List Value} {σ : am_H} {Q : Option Value → am_H → Prop} {a : Nat} : ax k_M_nextToken 156 ls (.ref a :: st) σ Q = ax_f (am_fld σ a 11 40) (fun v => ax k_M_nextToken 159 ls (v :: st) σ Q) := ru_getf f_M_nextToken_156 rfl
theorem f_M_nextToken_159 : am_cd k_M_nextToken 159 = some (none, .aload_n 0, (0, 0, 0, 0, 0, .null)) := rfl
theorem s_M_nextToken_159 {a1 a2 : Option Value} {st : List Value} {σ : am_H} {Q : Option Value → am_H → Prop} {x : Nat} : ax k_M_nextToken 159 [some (.ref x), a1, a2] st σ Q = ax k_M_nextToken 160 [some (.ref x), a1, a2] (.ref x :: st) σ Q := ru_loc (q := (_, _)) f_M_nextToken_159 rfl rfl rfl
theorem f_M_nextToken_160 : am_cd k_M_nextToken 160 = some (none, .getfield 248, (11, 41, 958, 0, 0, .null)) := rfl
theorem s_M_nextToken_160 {ls : am_L} {st : List Value} {σ : am_H} {Q : Option Value → am_H → Prop} {a : Nat} : ax k_M_nextToken 160 ls (.ref a :: st) σ Q = ax_f (am_fld σ a 11 41) (fun v => ax k_M_nextToken 163 ls (v :: st) σ Q) := ru_getf f_M_nextToken_160 rfl
theorem f_M_nextToken_163 : am_cd k_M_nextToken 163 = some (none, .isub, (0, 0, 0, 0, 0, .null)) := rfl
theorem s_M_nextToken_163 {ls : am_L} {st : List Value} {σ : am_H} {Q : Option Value → am_H → Prop} {x y : Int32} : ax k_M_nextToken 163 ls (.int y :: .int x :: st) σ Q = ax k_M_nextToken 164 ls (.int (x - y) :: st) σ Q := ru_pure f_M_nextToken_163 rfl rfl
theorem f_M_nextToken_164 : am_cd k_M_nextToken 164 = some (none, .iconst 4, (0, 0, 0, 0, 0, .null)) := rfl
theorem s_M_nextToken_164 {ls : am_L} {st : List Value} {σ : am_H} {Q : Option Value → am_H → Prop} : ax k_M_nextToken 164 ls st σ Q = ax k_M_nextToken 165 ls (.int 4 :: st) σ Q := ru_iconst f_M_nextToken_164 (by decide +kernel) rfl
theorem f_M_nextToken_165 : am_cd k_M_nextToken 165 = some (none, .if_icmp .ge 17, (182, 0, 0, 0, 0, .null)) := rfl
theorem s_M_nextToken_165 {ls : am_L} {st : List Value} {σ : am_H} {Q : Option Value → am_H → Prop} {x y : Int32} : ax k_M_nextToken 165 ls (.int y :: .int x :: st) σ Q = (if x < y then ax k_M_nextToken 168 ls st σ Q else ax k_M_nextToken 182 ls st σ Q) := (ru_icmp f_M_nextToken_165 rfl).trans (ru_i_ge _ _ _ _)
theorem f_M_nextToken_168 : am_cd k_M_nextToken 168 = some (none, .iload_n 2, (0, 0, 0, 0, 0, .null)) := rfl
theorem s_M_nextToken_168 {a0 a1 : Option Value} {st : List Value} {σ : am_H} {Q : Option Value → am_H → Prop} {x : Int32} : ax k_M_nextToken 168 [a0, a1, some (.int x)] st σ Q = ax k_M_nextToken 169 [a0, a1, some (.int x)] (.int x :: st) σ Q := ru_loc (q := (_, _)) f_M_nextToken_168 rfl rfl rfl
theorem f_M_nextToken_169 : am_cd k_M_nextToken 169 = some (none, .bipush 7, (0, 0, 0, 0, 0, .null)) := rfl
theorem s_M_nextToken_169 {ls : am_L} {st : List Value} {σ : am_H} {Q : Option Value → am_H → Prop} : ax k_M_nextToken 169 ls st σ Q = ax k_M_nextToken 171 ls (.int 7 :: st) σ Q := ru_bipush f_M_nextToken_169 (by decide +kernel) rfl
theorem f_M_nextToken_171 : am_cd k_M_nextToken 171 = some (none, .ishl, (0, 0, 0, 0, 0, .null)) := rfl
theorem s_M_nextToken_171 {ls : am_L} {st : List Value} {σ : am_H} {Q : Option Value → am_H → Prop} {x y : Int32} : ax k_M_nextToken 171 ls (.int y :: .int x :: st) σ Q = ax k_M_nextToken 172 ls (.int (x <<< (y &&& 31)) :: st) σ Q := ru_pure f_M_nextToken_171 rfl rfl
theorem f_M_nextToken_172 : am_cd k_M_nextToken 172 = some (none, .aload_n 0, (0, 0, 0, 0, 0, .null)) := rfl
theorem s_M_nextToken_172 {a1 a2 : Option Value} {st : List Value} {σ : am_H} {Q : Option Value → am_H → Prop} {x : Nat} : ax k_M_nextToken 172 [some (.ref x), a1, a2] st σ Q = ax k_M_nextToken 173 [some (.ref x), a1, a2] (.ref x :: st) σ Q := ru_loc (q := (_, _)) f_M_nextToken_172 rfl rfl rfl
theorem f_M_nextToken_173 : am_cd k_M_nextToken 173 = some (none, .aload_n 0, (0, 0, 0, 0, 0, .null)) := rfl
theorem s_M_nextToken_173 {a1 a2 : Option Value} {st : List Value} {σ : am_H} {Q : Option Value → am_H → Prop} {x : Nat} : ax k_M_nextToken 173 [some (.ref x), a1, a2] st σ Q = ax k_M_nextToken 174 [some (.ref x), a1, a2] (.ref x :: st) σ Q := ru_loc (q := (_, _)) f_M_nextToken_173 rfl rfl rfl
theorem f_M_nextToken_174 : am_cd k_M_nextToken 174 = some (none, .getfield 242, (11, 40, 957, 0, 0, .null)) := rfl
theorem s_M_nextToken_174 {ls : am_L} {st : List Value} {σ : am_H} {Q : Option Value → am_H → Prop} {a : Nat} : ax k_M_nextToken 174 ls (.ref a :: st) σ Q = ax_f (am_fld σ a 11 40) (fun v => ax k_M_nextToken 177 ls (v :: st) σ Q) := ru_getf f_M_nextToken_174 rfl
theorem f_M_nextToken_177 : am_cd k_M_nextToken 177 = some (none, .invokevirtual 245, (146, 1, 1251, 0, 11, .null)) := rfl
theorem s_M_nextToken_177 {ls : am_L} {st : List Value} {σ : am_H} {Q : Option Value → am_H → Prop} {p0 : Int32} {b : Nat} (hi : am_is σ b 11) (h8 : am_s8 st) : ax k_M_nextToken 177 ls (.int p0 :: .ref b :: st) σ Q = ax k_M_see 0 [some (.ref b), some (.int p0)] [] σ (ax_k k_M_nextToken 180 ls st Q) := ru_vir (M' := rk_M_see) f_M_nextToken_177 rfl rfl rfl rfl hi h8 rfl rfl rfl rfl rfl
theorem f_M_nextToken_180 : am_cd k_M_nextToken 180 = some (none, .ior, (0, 0, 0, 0, 0, .null)) := rfl
theorem s_M_nextToken_180 {ls : am_L} {st : List Value} {σ : am_H} {Q : Option Value → am_H → Prop} {x y : Int32} : ax k_M_nextToken 180 ls (.int y :: .int x :: st) σ Q = ax k_M_nextToken 181 ls (.int (x ||| y) :: st) σ Q := ru_pure f_M_nextToken_180 rfl rfl
theorem f_M_nextToken_181 : am_cd k_M_nextToken 181 = some (none, .istore_n 2, (0, 0, 0, 0, 0, .null)) := rfl
theorem s_M_nextToken_181 {a0 a1 a2 : Option Value} {st : List Value} {σ : am_H} {Q : Option Value → am_H → Prop} {x : Int32} (hc : am_c2 a1 = false) : ax k_M_nextToken 181 [a0, a1, a2] (.int x :: st) σ Q = ax k_M_nextToken 182 [a0, a1, some (.int x)] st σ Q := ru_istore_n f_M_nextToken_181 (Nat.le_of_ble_eq_true rfl) (ru_st1 (Nat.le_of_ble_eq_true rfl) (am_clr_c2 hc rfl) rfl) rfl
theorem f_M_nextToken_182 : am_cd k_M_nextToken 182 = some (none, .aload_n 0, (0, 0, 0, 0, 0, .null)) := rfl
theorem s_M_nextToken_182 {a1 a2 : Option Value} {st : List Value} {σ : am_H} {Q : Option Value → am_H → Prop} {x : Nat} : ax k_M_nextToken 182 [some (.ref x), a1, a2] st σ Q = ax k_M_nextToken 183 [some (.ref x), a1, a2] (.ref x :: st) σ Q := ru_loc (q := (_, _)) f_M_nextToken_182 rfl rfl rfl
theorem f_M_nextToken_183 : am_cd k_M_nextToken 183 = some (none, .dup, (0, 0, 0, 0, 0, .null)) := rfl
theorem s_M_nextToken_183 {ls : am_L} {st : List Value} {σ : am_H} {Q : Option Value → am_H → Prop} {a : Nat} : ax k_M_nextToken 183 ls (.ref a :: st) σ Q = ax k_M_nextToken 184 ls (.ref a :: .ref a :: st) σ Q := ru_pure f_M_nextToken_183 rfl rfl
theorem f_M_nextToken_184 : am_cd k_M_nextToken 184 = some (none, .getfield 242, (11, 40, 957, 0, 0, .null)) := rfl
theorem s_M_nextToken_184 {ls : am_L} {st : List Value} {σ : am_H} {Q : Option Value → am_H → Prop} {a : Nat} : ax k_M_nextToken 184 ls (.ref a :: st) σ Q = ax_f (am_fld σ a 11 40) (fun v => ax k_M_nextToken 187 ls (v :: st) σ Q) := ru_getf f_M_nextToken_184 rfl
theorem f_M_nextToken_187 : am_cd k_M_nextToken 187 = some (none, .iconst 1, (0, 0, 0, 0, 0, .null)) := rfl
theorem s_M_nextToken_187 {ls : am_L} {st : List Value} {σ : am_H} {Q : Option Value → am_H → Prop} : ax k_M_nextToken 187 ls st σ Q = ax k_M_nextToken 188 ls (.int 1 :: st) σ Q := ru_iconst f_M_nextToken_187 (by decide +kernel) rfl
theorem f_M_nextToken_188 : am_cd k_M_nextToken 188 = some (none, .iadd, (0, 0, 0, 0, 0, .null)) := rfl
theorem s_M_nextToken_188 {ls : am_L} {st : List Value} {σ : am_H} {Q : Option Value → am_H → Prop} {x y : Int32} : ax k_M_nextToken 188 ls (.int y :: .int x :: st) σ Q = ax k_M_nextToken 189 ls (.int (x + y) :: st) σ Q := ru_pure f_M_nextToken_188 rfl rfl
theorem f_M_nextToken_189 : am_cd k_M_nextToken 189 = some (none, .putfield 242, (11, 40, 957, 0, 0, .null)) := rfl
theorem s_M_nextToken_189 {ls : am_L} {st : List Value} {σ : am_H} {Q : Option Value → am_H → Prop} {a : Nat} {v : Value} : ax k_M_nextToken 189 ls (v :: .ref a :: st) σ Q = ax_f (am_fld σ a 11 40) (fun _ => a < am_top ∧ am_okv 0 v = true ∧ ax k_M_nextToken 192 ls st (am_put σ a 40 v) Q) := ru_putf f_M_nextToken_189 rfl
theorem f_M_nextToken_192 : am_cd k_M_nextToken 192 = some (none, .goto (-51), (141, 0, 0, 0, 0, .null)) := rfl
theorem s_M_nextToken_192 {ls : am_L} {st : List Value} {σ : am_H} {Q : Option Value → am_H → Prop} : ax k_M_nextToken 192 ls st σ Q = ax k_M_nextToken 141 ls st σ Q := ru_goto f_M_nextToken_192
theorem f_M_nextToken_195 : am_cd k_M_nextToken 195 = some (none, .aload_n 0, (0, 0, 0, 0, 0, .null)) := rfl
theorem s_M_nextToken_195 {a1 a2 : Option Value} {st : List Value} {σ : am_H} {Q : Option Value → am_H → Prop} {x : Nat} : ax k_M_nextToken 195 [some (.ref x), a1, a2] st σ Q = ax k_M_nextToken 196 [some (.ref x), a1, a2] (.ref x :: st) σ Q := ru_loc (q := (_, _)) f_M_nextToken_195 rfl rfl rfl
theorem f_M_nextToken_196 : am_cd k_M_nextToken 196 = some (none, .aload_n 0, (0, 0, 0, 0, 0, .null)) := rfl
theorem s_M_nextToken_196 {a1 a2 : Option Value} {st : List Value} {σ : am_H} {Q : Option Value → am_H → Prop} {x : Nat} : ax k_M_nextToken 196 [some (.ref x), a1, a2] st σ Q = ax k_M_nextToken 197 [some (.ref x), a1, a2] (.ref x :: st) σ Q := ru_loc (q := (_, _)) f_M_nextToken_196 rfl rfl rfl
theorem f_M_nextToken_197 : am_cd k_M_nextToken 197 = some (none, .getfield 242, (11, 40, 957, 0, 0, .null)) := rfl
theorem s_M_nextToken_197 {ls : am_L} {st : List Value} {σ : am_H} {Q : Option Value → am_H → Prop} {a : Nat} : ax k_M_nextToken 197 ls (.ref a :: st) σ Q = ax_f (am_fld σ a 11 40) (fun v => ax k_M_nextToken 200 ls (v :: st) σ Q) := ru_getf f_M_nextToken_197 rfl
theorem f_M_nextToken_200 : am_cd k_M_nextToken 200 = some (none, .aload_n 0, (0, 0, 0, 0, 0, .null)) := rfl
theorem s_M_nextToken_200 {a1 a2 : Option Value} {st : List Value} {σ : am_H} {Q : Option Value → am_H → Prop} {x : Nat} : ax k_M_nextToken 200 [some (.ref x), a1, a2] st σ Q = ax k_M_nextToken 201 [some (.ref x), a1, a2] (.ref x :: st) σ Q := ru_loc (q := (_, _)) f_M_nextToken_200 rfl rfl rfl
theorem f_M_nextToken_201 : am_cd k_M_nextToken 201 = some (none, .getfield 248, (11, 41, 958, 0, 0, .null)) := rfl
theorem s_M_nextToken_201 {ls : am_L} {st : List Value} {σ : am_H} {Q : Option Value → am_H → Prop} {a : Nat} : ax k_M_nextToken 201 ls (.ref a :: st) σ Q = ax_f (am_fld σ a 11 41) (fun v => ax k_M_nextToken 204 ls (v :: st) σ Q) := ru_getf f_M_nextToken_201 rfl
theorem f_M_nextToken_204 : am_cd k_M_nextToken 204 = some (none, .isub, (0, 0, 0, 0, 0, .null)) := rfl
theorem s_M_nextToken_204 {ls : am_L} {st : List Value} {σ : am_H} {Q : Option Value → am_H → Prop} {x y : Int32} : ax k_M_nextToken 204 ls (.int y :: .int x :: st) σ Q = ax k_M_nextToken 205 ls (.int (x - y) :: st) σ Q := ru_pure f_M_nextToken_204 rfl rfl
theorem f_M_nextToken_205 : am_cd k_M_nextToken 205 = some (none, .iconst 4, (0, 0, 0, 0, 0, .null)) := rfl
theorem s_M_nextToken_205 {ls : am_L} {st : List Value} {σ : am_H} {Q : Option Value → am_H → Prop} : ax k_M_nextToken 205 ls st σ Q = ax k_M_nextToken 206 ls (.int 4 :: st) σ Q := ru_iconst f_M_nextToken_205 (by decide +kernel) rfl
theorem f_M_nextToken_206 : am_cd k_M_nextToken 206 = some (none, .if_icmp .le 7, (213, 0, 0, 0, 0, .null)) := rfl
theorem s_M_nextToken_206 {ls : am_L} {st : List Value} {σ : am_H} {Q : Option Value → am_H → Prop} {x y : Int32} : ax k_M_nextToken 206 ls (.int y :: .int x :: st) σ Q = (if y < x then ax k_M_nextToken 209 ls st σ Q else ax k_M_nextToken 213 ls st σ Q) := (ru_icmp f_M_nextToken_206 rfl).trans (ru_i_le _ _ _ _)
theorem f_M_nextToken_209 : am_cd k_M_nextToken 209 = some (none, .iconst 3, (0, 0, 0, 0, 0, .null)) := rfl
theorem s_M_nextToken_209 {ls : am_L} {st : List Value} {σ : am_H} {Q : Option Value → am_H → Prop} : ax k_M_nextToken 209 ls st σ Q = ax k_M_nextToken 210 ls (.int 3 :: st) σ Q := ru_iconst f_M_nextToken_209 (by decide +kernel) rfl
theorem f_M_nextToken_210 : am_cd k_M_nextToken 210 = some (none, .goto 7, (217, 0, 0, 0, 0, .null)) := rfl
theorem s_M_nextToken_210 {ls : am_L} {st : List Value} {σ : am_H} {Q : Option Value → am_H → Prop} : ax k_M_nextToken 210 ls st σ Q = ax k_M_nextToken 217 ls st σ Q := ru_goto f_M_nextToken_210
theorem f_M_nextToken_213 : am_cd k_M_nextToken 213 = some (none, .iload_n 2, (0, 0, 0, 0, 0, .null)) := rfl
theorem s_M_nextToken_213 {a0 a1 : Option Value} {st : List Value} {σ : am_H} {Q : Option Value → am_H → Prop} {x : Int32} : ax k_M_nextToken 213 [a0, a1, some (.int x)] st σ Q = ax k_M_nextToken 214 [a0, a1, some (.int x)] (.int x :: st) σ Q := ru_loc (q := (_, _)) f_M_nextToken_213 rfl rfl rfl
theorem f_M_nextToken_214 : am_cd k_M_nextToken 214 = some (none, .invokestatic 264, (150, 1, 1262, 0, 11, .null)) := rfl
theorem s_M_nextToken_214 {ls : am_L} {st : List Value} {σ : am_H} {Q : Option Value → am_H → Prop} {p0 : Int32} (h8 : am_s8 st) : ax k_M_nextToken 214 ls (.int p0 :: st) σ Q = ax k_M_wordOf 0 [some (.int p0)] [] σ (ax_k k_M_nextToken 217 ls st Q) := ru_sta (M' := rk_M_wordOf) f_M_nextToken_214 rfl (by decide) rfl (by simp) rfl h8 rfl rfl rfl rfl rfl
theorem f_M_nextToken_217 : am_cd k_M_nextToken 217 = some (none, .putfield 251, (11, 42, 959, 0, 0, .null)) := rfl
theorem s_M_nextToken_217 {ls : am_L} {st : List Value} {σ : am_H} {Q : Option Value → am_H → Prop} {a : Nat} {v : Value} : ax k_M_nextToken 217 ls (v :: .ref a :: st) σ Q = ax_f (am_fld σ a 11 42) (fun _ => a < am_top ∧ am_okv 0 v = true ∧ ax k_M_nextToken 220 ls st (am_put σ a 42 v) Q) := ru_putf f_M_nextToken_217 rfl
theorem f_M_nextToken_220 : am_cd k_M_nextToken 220 = some (none, .goto 28, (248, 0, 0, 0, 0, .null)) := rfl
theorem s_M_nextToken_220 {ls : am_L} {st : List Value} {σ : am_H} {Q : Option Value → am_H → Prop} : ax k_M_nextToken 220 ls st σ Q = ax k_M_nextToken 248 ls st σ Q := ru_goto f_M_nextToken_220
theorem f_M_nextToken_223 : am_cd k_M_nextToken 223 = some (none, .aload_n 0, (0, 0, 0, 0, 0, .null)) := rfl
theorem s_M_nextToken_223 {a1 a2 : Option Value} {st : List Value} {σ : am_H} {Q : Option Value → am_H → Prop} {x : Nat} : ax k_M_nextToken 223 [some (.ref x), a1, a2] st σ Q = ax k_M_nextToken 224 [some (.ref x), a1, a2] (.ref x :: st) σ Q := ru_loc (q := (_, _)) f_M_nextToken_223 rfl rfl rfl
theorem f_M_nextToken_224 : am_cd k_M_nextToken 224 = some (none, .iload_n 1, (0, 0, 0, 0, 0, .null)) := rfl
theorem s_M_nextToken_224 {a0 a2 : Option Value} {st : List Value} {σ : am_H} {Q : Option Value → am_H → Prop} {x : Int32} : ax k_M_nextToken 224 [a0, some (.int x), a2] st σ Q = ax k_M_nextToken 225 [a0, some (.int x), a2] (.int x :: st) σ Q := ru_loc (q := (_, _)) f_M_nextToken_224 rfl rfl rfl
theorem f_M_nextToken_225 : am_cd k_M_nextToken 225 = some (none, .bipush 59, (0, 0, 0, 0, 0, .null)) := rfl
theorem s_M_nextToken_225 {ls : am_L} {st : List Value} {σ : am_H} {Q : Option Value → am_H → Prop} : ax k_M_nextToken 225 ls st σ Q = ax k_M_nextToken 227 ls (.int 59 :: st) σ Q := ru_bipush f_M_nextToken_225 (by decide +kernel) rfl
theorem f_M_nextToken_227 : am_cd k_M_nextToken 227 = some (none, .if_icmp .ne 7, (234, 0, 0, 0, 0, .null)) := rfl
theorem s_M_nextToken_227 {ls : am_L} {st : List Value} {σ : am_H} {Q : Option Value → am_H → Prop} {x y : Int32} : ax k_M_nextToken 227 ls (.int y :: .int x :: st) σ Q = (if x = y then ax k_M_nextToken 230 ls st σ Q else ax k_M_nextToken 234 ls st σ Q) := (ru_icmp f_M_nextToken_227 rfl).trans (ru_i_ne _ _ _ _)
theorem f_M_nextToken_230 : am_cd k_M_nextToken 230 = some (none, .iconst 2, (0, 0, 0, 0, 0, .null)) := rfl
theorem s_M_nextToken_230 {ls : am_L} {st : List Value} {σ : am_H} {Q : Option Value → am_H → Prop} : ax k_M_nextToken 230 ls st σ Q = ax k_M_nextToken 231 ls (.int 2 :: st) σ Q := ru_iconst f_M_nextToken_230 (by decide +kernel) rfl
theorem f_M_nextToken_231 : am_cd k_M_nextToken 231 = some (none, .goto 4, (235, 0, 0, 0, 0, .null)) := rfl
theorem s_M_nextToken_231 {ls : am_L} {st : List Value} {σ : am_H} {Q : Option Value → am_H → Prop} : ax k_M_nextToken 231 ls st σ Q = ax k_M_nextToken 235 ls st σ Q := ru_goto f_M_nextToken_231
theorem f_M_nextToken_234 : am_cd k_M_nextToken 234 = some (none, .iconst 3, (0, 0, 0, 0, 0, .null)) := rfl
theorem s_M_nextToken_234 {ls : am_L} {st : List Value} {σ : am_H} {Q : Option Value → am_H → Prop} : ax k_M_nextToken 234 ls st σ Q = ax k_M_nextToken 235 ls (.int 3 :: st) σ Q := ru_iconst f_M_nextToken_234 (by decide +kernel) rfl
theorem f_M_nextToken_235 : am_cd k_M_nextToken 235 = some (none, .putfield 251, (11, 42, 959, 0, 0, .null)) := rfl
theorem s_M_nextToken_235 {ls : am_L} {st : List Value} {σ : am_H} {Q : Option Value → am_H → Prop} {a : Nat} {v : Value} : ax k_M_nextToken 235 ls (v :: .ref a :: st) σ Q = ax_f (am_fld σ a 11 42) (fun _ => a < am_top ∧ am_okv 0 v = true ∧ ax k_M_nextToken 238 ls st (am_put σ a 42 v) Q) := ru_putf f_M_nextToken_235 rfl
theorem f_M_nextToken_238 : am_cd k_M_nextToken 238 = some (none, .aload_n 0, (0, 0, 0, 0, 0, .null)) := rfl
theorem s_M_nextToken_238 {a1 a2 : Option Value} {st : List Value} {σ : am_H} {Q : Option Value → am_H → Prop} {x : Nat} : ax k_M_nextToken 238 [some (.ref x), a1, a2] st σ Q = ax k_M_nextToken 239 [some (.ref x), a1, a2] (.ref x :: st) σ Q := ru_loc (q := (_, _)) f_M_nextToken_238 rfl rfl rfl
theorem f_M_nextToken_239 : am_cd k_M_nextToken 239 = some (none, .dup, (0, 0, 0, 0, 0, .null)) := rfl
theorem s_M_nextToken_239 {ls : am_L} {st : List Value} {σ : am_H} {Q : Option Value → am_H → Prop} {a : Nat} : ax k_M_nextToken 239 ls (.ref a :: st) σ Q = ax k_M_nextToken 240 ls (.ref a :: .ref a :: st) σ Q := ru_pure f_M_nextToken_239 rfl rfl
theorem f_M_nextToken_240 : am_cd k_M_nextToken 240 = some (none, .getfield 242, (11, 40, 957, 0, 0, .null)) := rfl
theorem s_M_nextToken_240 {ls : am_L} {st : List Value} {σ : am_H} {Q : Option Value → am_H → Prop} {a : Nat} : ax k_M_nextToken 240 ls (.ref a :: st) σ Q = ax_f (am_fld σ a 11 40) (fun v => ax k_M_nextToken 243 ls (v :: st) σ Q) := ru_getf f_M_nextToken_240 rfl
theorem f_M_nextToken_243 : am_cd k_M_nextToken 243 = some (none, .iconst 1, (0, 0, 0, 0, 0, .null)) := rfl
theorem s_M_nextToken_243 {ls : am_L} {st : List Value} {σ : am_H} {Q : Option Value → am_H → Prop} : ax k_M_nextToken 243 ls st σ Q = ax k_M_nextToken 244 ls (.int 1 :: st) σ Q := ru_iconst f_M_nextToken_243 (by decide +kernel) rfl
theorem f_M_nextToken_244 : am_cd k_M_nextToken 244 = some (none, .iadd, (0, 0, 0, 0, 0, .null)) := rfl
theorem s_M_nextToken_244 {ls : am_L} {st : List Value} {σ : am_H} {Q : Option Value → am_H → Prop} {x y : Int32} : ax k_M_nextToken 244 ls (.int y :: .int x :: st) σ Q = ax k_M_nextToken 245 ls (.int (x + y) :: st) σ Q := ru_pure f_M_nextToken_244 rfl rfl
theorem f_M_nextToken_245 : am_cd k_M_nextToken 245 = some (none, .putfield 242, (11, 40, 957, 0, 0, .null)) := rfl
theorem s_M_nextToken_245 {ls : am_L} {st : List Value} {σ : am_H} {Q : Option Value → am_H → Prop} {a : Nat} {v : Value} : ax k_M_nextToken 245 ls (v :: .ref a :: st) σ Q = ax_f (am_fld σ a 11 40) (fun _ => a < am_top ∧ am_okv 0 v = true ∧ ax k_M_nextToken 248 ls st (am_put σ a 40 v) Q) := ru_putf f_M_nextToken_245 rfl
theorem f_M_nextToken_248 : am_cd k_M_nextToken 248 = some (none, .return_, (0, 0, 0, 0, 0, .null)) := rfl
theorem s_M_nextToken_248 {ls : am_L} {σ : am_H} {Q : Option Value → am_H → Prop} : ax k_M_nextToken 248 ls ([]) σ Q = Q none σ := ru_ret f_M_nextToken_248 rfl rfl rfl rfl rfl rfl rfl
theorem f_M_isTold_0 : am_cd k_M_isTold 0 = some ((some .boolean), .iload_n 1, (0, 0, 0, 0, 0, .null)) := rfl
theorem s_M_isTold_0 {a0 : Option Value} {st : List Value} {σ : am_H} {Q : Option Value → am_H → Prop} {x : Int32} : ax k_M_isTold 0 [a0, some (.int x)] st σ Q = ax k_M_isTold 1 [a0, some (.int x)] (.int x :: st) σ Q := ru_loc (q := (_, _)) f_M_isTold_0 rfl rfl rfl
theorem f_M_isTold_1 : am_cd k_M_isTold 1 = some ((some .boolean), .iconst 4, (0, 0, 0, 0, 0, .null)) := rfl
theorem s_M_isTold_1 {ls : am_L} {st : List Value} {σ : am_H} {Q : Option Value → am_H → Prop} : ax k_M_isTold 1 ls st σ Q = ax k_M_isTold 2 ls (.int 4 :: st) σ Q := ru_iconst f_M_isTold_1 (by decide +kernel) rfl
theorem f_M_isTold_2 : am_cd k_M_isTold 2 = some ((some .boolean), .if_icmp .ne 14, (16, 0, 0, 0, 0, .null)) := rfl
theorem s_M_isTold_2 {ls : am_L} {st : List Value} {σ : am_H} {Q : Option Value → am_H → Prop} {x y : Int32} : ax k_M_isTold 2 ls (.int y :: .int x :: st) σ Q = (if x = y then ax k_M_isTold 5 ls st σ Q else ax k_M_isTold 16 ls st σ Q) := (ru_icmp f_M_isTold_2 rfl).trans (ru_i_ne _ _ _ _)
theorem f_M_isTold_5 : am_cd k_M_isTold 5 = some ((some .boolean), .aload_n 0, (0, 0, 0, 0, 0, .null)) := rfl
theorem s_M_isTold_5 {a1 : Option Value} {st : List Value} {σ : am_H} {Q : Option Value → am_H → Prop} {x : Nat} : ax k_M_isTold 5 [some (.ref x), a1] st σ Q = ax k_M_isTold 6 [some (.ref x), a1] (.ref x :: st) σ Q := ru_loc (q := (_, _)) f_M_isTold_5 rfl rfl rfl
theorem f_M_isTold_6 : am_cd k_M_isTold 6 = some ((some .boolean), .getfield 257, (11, 43, 960, 0, 0, .null)) := rfl
theorem s_M_isTold_6 {ls : am_L} {st : List Value} {σ : am_H} {Q : Option Value → am_H → Prop} {a : Nat} : ax k_M_isTold 6 ls (.ref a :: st) σ Q = ax_f (am_fld σ a 11 43) (fun v => ax k_M_isTold 9 ls (v :: st) σ Q) := ru_getf f_M_isTold_6 rfl
theorem f_M_isTold_9 : am_cd k_M_isTold 9 = some ((some .boolean), .iconst 0, (0, 0, 0, 0, 0, .null)) := rfl
theorem s_M_isTold_9 {ls : am_L} {st : List Value} {σ : am_H} {Q : Option Value → am_H → Prop} : ax k_M_isTold 9 ls st σ Q = ax k_M_isTold 10 ls (.int 0 :: st) σ Q := ru_iconst f_M_isTold_9 (by decide +kernel) rfl
theorem f_M_isTold_10 : am_cd k_M_isTold 10 = some ((some .boolean), .bipush 9, (0, 0, 0, 0, 0, .null)) := rfl
theorem s_M_isTold_10 {ls : am_L} {st : List Value} {σ : am_H} {Q : Option Value → am_H → Prop} : ax k_M_isTold 10 ls st σ Q = ax k_M_isTold 12 ls (.int 9 :: st) σ Q := ru_bipush f_M_isTold_10 (by decide +kernel) rfl
theorem f_M_isTold_12 : am_cd k_M_isTold 12 = some ((some .boolean), .invokestatic 154, (113, 3, 1110, 0, 11, .null)) := rfl
theorem s_M_isTold_12 {ls : am_L} {st : List Value} {σ : am_H} {Q : Option Value → am_H → Prop} {p0 : Int32} {p1 : Int32} {p2 : Int32} (h8 : am_s8 st) : ax k_M_isTold 12 ls (.int p2 :: .int p1 :: .int p0 :: st) σ Q = ax k_M_isIn 0 [some (.int p0), some (.int p1), some (.int p2)] [] σ (ax_k k_M_isTold 15 ls st Q) := ru_sta (M' := rk_M_isIn) f_M_isTold_12 rfl (by decide) rfl (by simp) rfl h8 rfl rfl rfl rfl rfl
theorem f_M_isTold_15 : am_cd k_M_isTold 15 = some ((some .boolean), .ireturn, (0, 0, 0, 0, 0, .null)) := rfl
theorem s_M_isTold_15 {ls : am_L} {σ : am_H} {Q : Option Value → am_H → Prop} {v : Int32} : ax k_M_isTold 15 ls ([.int v]) σ Q = (am_nar .boolean v = true ∧ Q (some (.int v)) σ) := ru_iret f_M_isTold_15
theorem f_M_isTold_16 : am_cd k_M_isTold 16 = some ((some .boolean), .iload_n 1, (0, 0, 0, 0, 0, .null)) := rfl
theorem s_M_isTold_16 {a0 : Option Value} {st : List Value} {σ : am_H} {Q : Option Value → am_H → Prop} {x : Int32} : ax k_M_isTold 16 [a0, some (.int x)] st σ Q = ax k_M_isTold 17 [a0, some (.int x)] (.int x :: st) σ Q := ru_loc (q := (_, _)) f_M_isTold_16 rfl rfl rfl
theorem f_M_isTold_17 : am_cd k_M_isTold 17 = some ((some .boolean), .iconst 5, (0, 0, 0, 0, 0, .null)) := rfl
theorem s_M_isTold_17 {ls : am_L} {st : List Value} {σ : am_H} {Q : Option Value → am_H → Prop} : ax k_M_isTold 17 ls st σ Q = ax k_M_isTold 18 ls (.int 5 :: st) σ Q := ru_iconst f_M_isTold_17 (by decide +kernel) rfl
theorem f_M_isTold_18 : am_cd k_M_isTold 18 = some ((some .boolean), .if_icmp .ne 13, (31, 0, 0, 0, 0, .null)) := rfl
theorem s_M_isTold_18 {ls : am_L} {st : List Value} {σ : am_H} {Q : Option Value → am_H → Prop} {x y : Int32} : ax k_M_isTold 18 ls (.int y :: .int x :: st) σ Q = (if x = y then ax k_M_isTold 21 ls st σ Q else ax k_M_isTold 31 ls st σ Q) := (ru_icmp f_M_isTold_18 rfl).trans (ru_i_ne _ _ _ _)
theorem f_M_isTold_21 : am_cd k_M_isTold 21 = some ((some .boolean), .aload_n 0, (0, 0, 0, 0, 0, .null)) := rfl
theorem s_M_isTold_21 {a1 : Option Value} {st : List Value} {σ : am_H} {Q : Option Value → am_H → Prop} {x : Nat} : ax k_M_isTold 21 [some (.ref x), a1] st σ Q = ax k_M_isTold 22 [some (.ref x), a1] (.ref x :: st) σ Q := ru_loc (q := (_, _)) f_M_isTold_21 rfl rfl rfl
theorem f_M_isTold_22 : am_cd k_M_isTold 22 = some ((some .boolean), .getfield 257, (11, 43, 960, 0, 0, .null)) := rfl
theorem s_M_isTold_22 {ls : am_L} {st : List Value} {σ : am_H} {Q : Option Value → am_H → Prop} {a : Nat} : ax k_M_isTold 22 ls (.ref a :: st) σ Q = ax_f (am_fld σ a 11 43) (fun v => ax k_M_isTold 25 ls (v :: st) σ Q) := ru_getf f_M_isTold_22 rfl
theorem f_M_isTold_25 : am_cd k_M_isTold 25 = some ((some .boolean), .iconst 0, (0, 0, 0, 0, 0, .null)) := rfl
theorem s_M_isTold_25 {ls : am_L} {st : List Value} {σ : am_H} {Q : Option Value → am_H → Prop} : ax k_M_isTold 25 ls st σ Q = ax k_M_isTold 26 ls (.int 0 :: st) σ Q := ru_iconst f_M_isTold_25 (by decide +kernel) rfl
theorem f_M_isTold_26 : am_cd k_M_isTold 26 = some ((some .boolean), .iconst 4, (0, 0, 0, 0, 0, .null)) := rfl
theorem s_M_isTold_26 {ls : am_L} {st : List Value} {σ : am_H} {Q : Option Value → am_H → Prop} : ax k_M_isTold 26 ls st σ Q = ax k_M_isTold 27 ls (.int 4 :: st) σ Q := ru_iconst f_M_isTold_26 (by decide +kernel) rfl
theorem f_M_isTold_27 : am_cd k_M_isTold 27 = some ((some .boolean), .invokestatic 154, (113, 3, 1110, 0, 11, .null)) := rfl
theorem s_M_isTold_27 {ls : am_L} {st : List Value} {σ : am_H} {Q : Option Value → am_H → Prop} {p0 : Int32} {p1 : Int32} {p2 : Int32} (h8 : am_s8 st) : ax k_M_isTold 27 ls (.int p2 :: .int p1 :: .int p0 :: st) σ Q = ax k_M_isIn 0 [some (.int p0), some (.int p1), some (.int p2)] [] σ (ax_k k_M_isTold 30 ls st Q) := ru_sta (M' := rk_M_isIn) f_M_isTold_27 rfl (by decide) rfl (by simp) rfl h8 rfl rfl rfl rfl rfl
theorem f_M_isTold_30 : am_cd k_M_isTold 30 = some ((some .boolean), .ireturn, (0, 0, 0, 0, 0, .null)) := rfl
theorem s_M_isTold_30 {ls : am_L} {σ : am_H} {Q : Option Value → am_H → Prop} {v : Int32} : ax k_M_isTold 30 ls ([.int v]) σ Q = (am_nar .boolean v = true ∧ Q (some (.int v)) σ) := ru_iret f_M_isTold_30
theorem f_M_isTold_31 : am_cd k_M_isTold 31 = some ((some .boolean), .iload_n 1, (0, 0, 0, 0, 0, .null)) := rfl
theorem s_M_isTold_31 {a0 : Option Value} {st : List Value} {σ : am_H} {Q : Option Value → am_H → Prop} {x : Int32} : ax k_M_isTold 31 [a0, some (.int x)] st σ Q = ax k_M_isTold 32 [a0, some (.int x)] (.int x :: st) σ Q := ru_loc (q := (_, _)) f_M_isTold_31 rfl rfl rfl
theorem f_M_isTold_32 : am_cd k_M_isTold 32 = some ((some .boolean), .bipush 6, (0, 0, 0, 0, 0, .null)) := rfl
theorem s_M_isTold_32 {ls : am_L} {st : List Value} {σ : am_H} {Q : Option Value → am_H → Prop} : ax k_M_isTold 32 ls st σ Q = ax k_M_isTold 34 ls (.int 6 :: st) σ Q := ru_bipush f_M_isTold_32 (by decide +kernel) rfl
theorem f_M_isTold_34 : am_cd k_M_isTold 34 = some ((some .boolean), .if_icmp .ne 14, (48, 0, 0, 0, 0, .null)) := rfl
theorem s_M_isTold_34 {ls : am_L} {st : List Value} {σ : am_H} {Q : Option Value → am_H → Prop} {x y : Int32} : ax k_M_isTold 34 ls (.int y :: .int x :: st) σ Q = (if x = y then ax k_M_isTold 37 ls st σ Q else ax k_M_isTold 48 ls st σ Q) := (ru_icmp f_M_isTold_34 rfl).trans (ru_i_ne _ _ _ _)
theorem f_M_isTold_37 : am_cd k_M_isTold 37 = some ((some .boolean), .aload_n 0, (0, 0, 0, 0, 0, .null)) := rfl
theorem s_M_isTold_37 {a1 : Option Value} {st : List Value} {σ : am_H} {Q : Option Value → am_H → Prop} {x : Nat} : ax k_M_isTold 37 [some (.ref x), a1] st σ Q = ax k_M_isTold 38 [some (.ref x), a1] (.ref x :: st) σ Q := ru_loc (q := (_, _)) f_M_isTold_37 rfl rfl rfl
theorem f_M_isTold_38 : am_cd k_M_isTold 38 = some ((some .boolean), .getfield 257, (11, 43, 960, 0, 0, .null)) := rfl
theorem s_M_isTold_38 {ls : am_L} {st : List Value} {σ : am_H} {Q : Option Value → am_H → Prop} {a : Nat} : ax k_M_isTold 38 ls (.ref a :: st) σ Q = ax_f (am_fld σ a 11 43) (fun v => ax k_M_isTold 41 ls (v :: st) σ Q) := ru_getf f_M_isTold_38 rfl
theorem f_M_isTold_41 : am_cd k_M_isTold 41 = some ((some .boolean), .iconst 0, (0, 0, 0, 0, 0, .null)) := rfl
theorem s_M_isTold_41 {ls : am_L} {st : List Value} {σ : am_H} {Q : Option Value → am_H → Prop} : ax k_M_isTold 41 ls st σ Q = ax k_M_isTold 42 ls (.int 0 :: st) σ Q := ru_iconst f_M_isTold_41 (by decide +kernel) rfl
theorem f_M_isTold_42 : am_cd k_M_isTold 42 = some ((some .boolean), .ldc 164, (0, 0, 1109, 0, 0, .int (100000))) := rfl
theorem s_M_isTold_42 {ls : am_L} {st : List Value} {σ : am_H} {Q : Option Value → am_H → Prop} : ax k_M_isTold 42 ls st σ Q = ax k_M_isTold 44 ls (.int (100000) :: st) σ Q := ru_rd f_M_isTold_42 rfl rfl rfl rfl rfl
theorem f_M_isTold_44 : am_cd k_M_isTold 44 = some ((some .boolean), .invokestatic 154, (113, 3, 1110, 0, 11, .null)) := rfl
theorem s_M_isTold_44 {ls : am_L} {st : List Value} {σ : am_H} {Q : Option Value → am_H → Prop} {p0 : Int32} {p1 : Int32} {p2 : Int32} (h8 : am_s8 st) : ax k_M_isTold 44 ls (.int p2 :: .int p1 :: .int p0 :: st) σ Q = ax k_M_isIn 0 [some (.int p0), some (.int p1), some (.int p2)] [] σ (ax_k k_M_isTold 47 ls st Q) := ru_sta (M' := rk_M_isIn) f_M_isTold_44 rfl (by decide) rfl (by simp) rfl h8 rfl rfl rfl rfl rfl
theorem f_M_isTold_47 : am_cd k_M_isTold 47 = some ((some .boolean), .ireturn, (0, 0, 0, 0, 0, .null)) := rfl
theorem s_M_isTold_47 {ls : am_L} {σ : am_H} {Q : Option Value → am_H → Prop} {v : Int32} : ax k_M_isTold 47 ls ([.int v]) σ Q = (am_nar .boolean v = true ∧ Q (some (.int v)) σ) := ru_iret f_M_isTold_47
theorem f_M_isTold_48 : am_cd k_M_isTold 48 = some ((some .boolean), .iload_n 1, (0, 0, 0, 0, 0, .null)) := rfl
theorem s_M_isTold_48 {a0 : Option Value} {st : List Value} {σ : am_H} {Q : Option Value → am_H → Prop} {x : Int32} : ax k_M_isTold 48 [a0, some (.int x)] st σ Q = ax k_M_isTold 49 [a0, some (.int x)] (.int x :: st) σ Q := ru_loc (q := (_, _)) f_M_isTold_48 rfl rfl rfl
theorem f_M_isTold_49 : am_cd k_M_isTold 49 = some ((some .boolean), .bipush 7, (0, 0, 0, 0, 0, .null)) := rfl
theorem s_M_isTold_49 {ls : am_L} {st : List Value} {σ : am_H} {Q : Option Value → am_H → Prop} : ax k_M_isTold 49 ls st σ Q = ax k_M_isTold 51 ls (.int 7 :: st) σ Q := ru_bipush f_M_isTold_49 (by decide +kernel) rfl
theorem f_M_isTold_51 : am_cd k_M_isTold 51 = some ((some .boolean), .if_icmp .ne 17, (68, 0, 0, 0, 0, .null)) := rfl
theorem s_M_isTold_51 {ls : am_L} {st : List Value} {σ : am_H} {Q : Option Value → am_H → Prop} {x y : Int32} : ax k_M_isTold 51 ls (.int y :: .int x :: st) σ Q = (if x = y then ax k_M_isTold 54 ls st σ Q else ax k_M_isTold 68 ls st σ Q) := (ru_icmp f_M_isTold_51 rfl).trans (ru_i_ne _ _ _ _)
theorem f_M_isTold_54 : am_cd k_M_isTold 54 = some ((some .boolean), .aload_n 0, (0, 0, 0, 0, 0, .null)) := rfl
theorem s_M_isTold_54 {a1 : Option Value} {st : List Value} {σ : am_H} {Q : Option Value → am_H → Prop} {x : Nat} : ax k_M_isTold 54 [some (.ref x), a1] st σ Q = ax k_M_isTold 55 [some (.ref x), a1] (.ref x :: st) σ Q := ru_loc (q := (_, _)) f_M_isTold_54 rfl rfl rfl
theorem f_M_isTold_55 : am_cd k_M_isTold 55 = some ((some .boolean), .getfield 257, (11, 43, 960, 0, 0, .null)) := rfl
theorem s_M_isTold_55 {ls : am_L} {st : List Value} {σ : am_H} {Q : Option Value → am_H → Prop} {a : Nat} : ax k_M_isTold 55 ls (.ref a :: st) σ Q = ax_f (am_fld σ a 11 43) (fun v => ax k_M_isTold 58 ls (v :: st) σ Q) := ru_getf f_M_isTold_55 rfl
theorem f_M_isTold_58 : am_cd k_M_isTold 58 = some ((some .boolean), .iconst 1, (0, 0, 0, 0, 0, .null)) := rfl
theorem s_M_isTold_58 {ls : am_L} {st : List Value} {σ : am_H} {Q : Option Value → am_H → Prop} : ax k_M_isTold 58 ls st σ Q = ax k_M_isTold 59 ls (.int 1 :: st) σ Q := ru_iconst f_M_isTold_58 (by decide +kernel) rfl
theorem f_M_isTold_59 : am_cd k_M_isTold 59 = some ((some .boolean), .sipush 1000, (0, 0, 0, 0, 0, .null)) := rfl
theorem s_M_isTold_59 {ls : am_L} {st : List Value} {σ : am_H} {Q : Option Value → am_H → Prop} : ax k_M_isTold 59 ls st σ Q = ax k_M_isTold 62 ls (.int 1000 :: st) σ Q := ru_sipush f_M_isTold_59 (by decide +kernel) rfl
theorem f_M_isTold_62 : am_cd k_M_isTold 62 = some ((some .boolean), .invokestatic 154, (113, 3, 1110, 0, 11, .null)) := rfl
theorem s_M_isTold_62 {ls : am_L} {st : List Value} {σ : am_H} {Q : Option Value → am_H → Prop} {p0 : Int32} {p1 : Int32} {p2 : Int32} (h8 : am_s8 st) : ax k_M_isTold 62 ls (.int p2 :: .int p1 :: .int p0 :: st) σ Q = ax k_M_isIn 0 [some (.int p0), some (.int p1), some (.int p2)] [] σ (ax_k k_M_isTold 65 ls st Q) := ru_sta (M' := rk_M_isIn) f_M_isTold_62 rfl (by decide) rfl (by simp) rfl h8 rfl rfl rfl rfl rfl
theorem f_M_isTold_65 : am_cd k_M_isTold 65 = some ((some .boolean), .goto 11, (76, 0, 0, 0, 0, .null)) := rfl
theorem s_M_isTold_65 {ls : am_L} {st : List Value} {σ : am_H} {Q : Option Value → am_H → Prop} : ax k_M_isTold 65 ls st σ Q = ax k_M_isTold 76 ls st σ Q := ru_goto f_M_isTold_65
theorem f_M_isTold_68 : am_cd k_M_isTold 68 = some ((some .boolean), .aload_n 0, (0, 0, 0, 0, 0, .null)) := rfl
theorem s_M_isTold_68 {a1 : Option Value} {st : List Value} {σ : am_H} {Q : Option Value → am_H → Prop} {x : Nat} : ax k_M_isTold 68 [some (.ref x), a1] st σ Q = ax k_M_isTold 69 [some (.ref x), a1] (.ref x :: st) σ Q := ru_loc (q := (_, _)) f_M_isTold_68 rfl rfl rfl
theorem f_M_isTold_69 : am_cd k_M_isTold 69 = some ((some .boolean), .aload_n 0, (0, 0, 0, 0, 0, .null)) := rfl
theorem s_M_isTold_69 {a1 : Option Value} {st : List Value} {σ : am_H} {Q : Option Value → am_H → Prop} {x : Nat} : ax k_M_isTold 69 [some (.ref x), a1] st σ Q = ax k_M_isTold 70 [some (.ref x), a1] (.ref x :: st) σ Q := ru_loc (q := (_, _)) f_M_isTold_69 rfl rfl rfl
theorem f_M_isTold_70 : am_cd k_M_isTold 70 = some ((some .boolean), .getfield 257, (11, 43, 960, 0, 0, .null)) := rfl
theorem s_M_isTold_70 {ls : am_L} {st : List Value} {σ : am_H} {Q : Option Value → am_H → Prop} {a : Nat} : ax k_M_isTold 70 ls (.ref a :: st) σ Q = ax_f (am_fld σ a 11 43) (fun v => ax k_M_isTold 73 ls (v :: st) σ Q) := ru_getf f_M_isTold_70 rfl
theorem f_M_isTold_73 : am_cd k_M_isTold 73 = some ((some .boolean), .invokevirtual 172, (114, 1, 1117, 0, 11, .null)) := rfl
theorem s_M_isTold_73 {ls : am_L} {st : List Value} {σ : am_H} {Q : Option Value → am_H → Prop} {p0 : Int32} {b : Nat} (hi : am_is σ b 11) (h8 : am_s8 st) : ax k_M_isTold 73 ls (.int p0 :: .ref b :: st) σ Q = ax k_M_isWord 0 [some (.ref b), some (.int p0)] [] σ (ax_k k_M_isTold 76 ls st Q) := ru_vir (M' := rk_M_isWord) f_M_isTold_73 rfl rfl rfl rfl hi h8 rfl rfl rfl rfl rfl
theorem f_M_isTold_76 : am_cd k_M_isTold 76 = some ((some .boolean), .ireturn, (0, 0, 0, 0, 0, .null)) := rfl
theorem s_M_isTold_76 {ls : am_L} {σ : am_H} {Q : Option Value → am_H → Prop} {v : Int32} : ax k_M_isTold 76 ls ([.int v]) σ Q = (am_nar .boolean v = true ∧ Q (some (.int v)) σ) := ru_iret f_M_isTold_76
theorem f_M_keep_0 : am_cd k_M_keep 0 = some (none, .iload_n 1, (0, 0, 0, 0, 0, .null)) := rfl
theorem s_M_keep_0 {a0 : Option Value} {st : List Value} {σ : am_H} {Q : Option Value → am_H → Prop} {x : Int32} : ax k_M_keep 0 [a0, some (.int x)] st σ Q = ax k_M_keep 1 [a0, some (.int x)] (.int x :: st) σ Q := ru_loc (q := (_, _)) f_M_keep_0 rfl rfl rfl
theorem f_M_keep_1 : am_cd k_M_keep 1 = some (none, .iconst 4, (0, 0, 0, 0, 0, .null)) := rfl
theorem s_M_keep_1 {ls : am_L} {st : List Value} {σ : am_H} {Q : Option Value → am_H → Prop} : ax k_M_keep 1 ls st σ Q = ax k_M_keep 2 ls (.int 4 :: st) σ Q := ru_iconst f_M_keep_1 (by decide +kernel) rfl
theorem f_M_keep_2 : am_cd k_M_keep 2 = some (none, .if_icmp .ne 19, (21, 0, 0, 0, 0, .null)) := rfl
theorem s_M_keep_2 {ls : am_L} {st : List Value} {σ : am_H} {Q : Option Value → am_H → Prop} {x y : Int32} : ax k_M_keep 2 ls (.int y :: .int x :: st) σ Q = (if x = y then ax k_M_keep 5 ls st σ Q else ax k_M_keep 21 ls st σ Q) := (ru_icmp f_M_keep_2 rfl).trans (ru_i_ne _ _ _ _)
theorem f_M_keep_5 : am_cd k_M_keep 5 = some (none, .aload_n 0, (0, 0, 0, 0, 0, .null)) := rfl
theorem s_M_keep_5 {a1 : Option Value} {st : List Value} {σ : am_H} {Q : Option Value → am_H → Prop} {x : Nat} : ax k_M_keep 5 [some (.ref x), a1] st σ Q = ax k_M_keep 6 [some (.ref x), a1] (.ref x :: st) σ Q := ru_loc (q := (_, _)) f_M_keep_5 rfl rfl rfl
theorem f_M_keep_6 : am_cd k_M_keep 6 = some (none, .getfield 81, (11, 32, 949, 0, 3, .null)) := rfl
theorem s_M_keep_6 {ls : am_L} {st : List Value} {σ : am_H} {Q : Option Value → am_H → Prop} {a : Nat} : ax k_M_keep 6 ls (.ref a :: st) σ Q = ax_f (am_fld σ a 11 32) (fun v => ax k_M_keep 9 ls (v :: st) σ Q) := ru_getf f_M_keep_6 rfl
theorem f_M_keep_9 : am_cd k_M_keep 9 = some (none, .bipush 120, (0, 0, 0, 0, 0, .null)) := rfl
theorem s_M_keep_9 {ls : am_L} {st : List Value} {σ : am_H} {Q : Option Value → am_H → Prop} : ax k_M_keep 9 ls st σ Q = ax k_M_keep 11 ls (.int 120 :: st) σ Q := ru_bipush f_M_keep_9 (by decide +kernel) rfl
theorem f_M_keep_11 : am_cd k_M_keep 11 = some (none, .dup2, (0, 0, 0, 0, 0, .null)) := rfl
theorem s_M_keep_11 {ls : am_L} {st : List Value} {σ : am_H} {Q : Option Value → am_H → Prop} {a : Nat} {x : Int32} : ax k_M_keep 11 ls (.int x :: .ref a :: st) σ Q = ax k_M_keep 12 ls (.int x :: .ref a :: .int x :: .ref a :: st) σ Q := ru_pure f_M_keep_11 rfl rfl
theorem f_M_keep_12 : am_cd k_M_keep 12 = some (none, .iaload, (0, 0, 0, 0, 0, .null)) := rfl
theorem s_M_keep_12 {ls : am_L} {st : List Value} {σ : am_H} {Q : Option Value → am_H → Prop} {a : Nat} {j : Int32} : ax k_M_keep 12 ls (.int j :: .ref a :: st) σ Q = ax_f (am_j σ a) (fun q => q.1 = 0 ∧ am_ix j q.2.1 ∧ ax k_M_keep 13 ls (.int (q.2.2 j.toNatClampNeg) :: st) σ Q) := rv_iald f_M_keep_12 rfl
theorem f_M_keep_13 : am_cd k_M_keep 13 = some (none, .iconst 1, (0, 0, 0, 0, 0, .null)) := rfl
theorem s_M_keep_13 {ls : am_L} {st : List Value} {σ : am_H} {Q : Option Value → am_H → Prop} : ax k_M_keep 13 ls st σ Q = ax k_M_keep 14 ls (.int 1 :: st) σ Q := ru_iconst f_M_keep_13 (by decide +kernel) rfl
theorem f_M_keep_14 : am_cd k_M_keep 14 = some (none, .aload_n 0, (0, 0, 0, 0, 0, .null)) := rfl
theorem s_M_keep_14 {a1 : Option Value} {st : List Value} {σ : am_H} {Q : Option Value → am_H → Prop} {x : Nat} : ax k_M_keep 14 [some (.ref x), a1] st σ Q = ax k_M_keep 15 [some (.ref x), a1] (.ref x :: st) σ Q := ru_loc (q := (_, _)) f_M_keep_14 rfl rfl rfl
theorem f_M_keep_15 : am_cd k_M_keep 15 = some (none, .getfield 257, (11, 43, 960, 0, 0, .null)) := rfl
theorem s_M_keep_15 {ls : am_L} {st : List Value} {σ : am_H} {Q : Option Value → am_H → Prop} {a : Nat} : ax k_M_keep 15 ls (.ref a :: st) σ Q = ax_f (am_fld σ a 11 43) (fun v => ax k_M_keep 18 ls (v :: st) σ Q) := ru_getf f_M_keep_15 rfl
theorem f_M_keep_18 : am_cd k_M_keep 18 = some (none, .ishl, (0, 0, 0, 0, 0, .null)) := rfl
theorem s_M_keep_18 {ls : am_L} {st : List Value} {σ : am_H} {Q : Option Value → am_H → Prop} {x y : Int32} : ax k_M_keep 18 ls (.int y :: .int x :: st) σ Q = ax k_M_keep 19 ls (.int (x <<< (y &&& 31)) :: st) σ Q := ru_pure f_M_keep_18 rfl rfl
theorem f_M_keep_19 : am_cd k_M_keep 19 = some (none, .ior, (0, 0, 0, 0, 0, .null)) := rfl
theorem s_M_keep_19 {ls : am_L} {st : List Value} {σ : am_H} {Q : Option Value → am_H → Prop} {x y : Int32} : ax k_M_keep 19 ls (.int y :: .int x :: st) σ Q = ax k_M_keep 20 ls (.int (x ||| y) :: st) σ Q := ru_pure f_M_keep_19 rfl rfl
theorem f_M_keep_20 : am_cd k_M_keep 20 = some (none, .iastore, (0, 0, 0, 0, 0, .null)) := rfl
theorem s_M_keep_20 {ls : am_L} {st : List Value} {σ : am_H} {Q : Option Value → am_H → Prop} {a : Nat} {j x : Int32} : ax k_M_keep 20 ls (.int x :: .int j :: .ref a :: st) σ Q = ax_f (am_j σ a) (fun q => q.1 = 0 ∧ am_ix j q.2.1 ∧ a < am_top ∧ ax k_M_keep 21 ls st (am_set σ a (am_ia 0 q.2.1 (upd q.2.2 j.toNatClampNeg x))) Q) := rv_iast f_M_keep_20 rfl
theorem f_M_keep_21 : am_cd k_M_keep 21 = some (none, .iload_n 1, (0, 0, 0, 0, 0, .null)) := rfl
theorem s_M_keep_21 {a0 : Option Value} {st : List Value} {σ : am_H} {Q : Option Value → am_H → Prop} {x : Int32} : ax k_M_keep 21 [a0, some (.int x)] st σ Q = ax k_M_keep 22 [a0, some (.int x)] (.int x :: st) σ Q := ru_loc (q := (_, _)) f_M_keep_21 rfl rfl rfl
theorem f_M_keep_22 : am_cd k_M_keep 22 = some (none, .iconst 5, (0, 0, 0, 0, 0, .null)) := rfl
theorem s_M_keep_22 {ls : am_L} {st : List Value} {σ : am_H} {Q : Option Value → am_H → Prop} : ax k_M_keep 22 ls st σ Q = ax k_M_keep 23 ls (.int 5 :: st) σ Q := ru_iconst f_M_keep_22 (by decide +kernel) rfl
theorem f_M_keep_23 : am_cd k_M_keep 23 = some (none, .if_icmp .ne 19, (42, 0, 0, 0, 0, .null)) := rfl
theorem s_M_keep_23 {ls : am_L} {st : List Value} {σ : am_H} {Q : Option Value → am_H → Prop} {x y : Int32} : ax k_M_keep 23 ls (.int y :: .int x :: st) σ Q = (if x = y then ax k_M_keep 26 ls st σ Q else ax k_M_keep 42 ls st σ Q) := (ru_icmp f_M_keep_23 rfl).trans (ru_i_ne _ _ _ _)
theorem f_M_keep_26 : am_cd k_M_keep 26 = some (none, .aload_n 0, (0, 0, 0, 0, 0, .null)) := rfl
theorem s_M_keep_26 {a1 : Option Value} {st : List Value} {σ : am_H} {Q : Option Value → am_H → Prop} {x : Nat} : ax k_M_keep 26 [some (.ref x), a1] st σ Q = ax k_M_keep 27 [some (.ref x), a1] (.ref x :: st) σ Q := ru_loc (q := (_, _)) f_M_keep_26 rfl rfl rfl
theorem f_M_keep_27 : am_cd k_M_keep 27 = some (none, .getfield 84, (11, 33, 950, 0, 3, .null)) := rfl
theorem s_M_keep_27 {ls : am_L} {st : List Value} {σ : am_H} {Q : Option Value → am_H → Prop} {a : Nat} : ax k_M_keep 27 ls (.ref a :: st) σ Q = ax_f (am_fld σ a 11 33) (fun v => ax k_M_keep 30 ls (v :: st) σ Q) := ru_getf f_M_keep_27 rfl
theorem f_M_keep_30 : am_cd k_M_keep 30 = some (none, .bipush 120, (0, 0, 0, 0, 0, .null)) := rfl
theorem s_M_keep_30 {ls : am_L} {st : List Value} {σ : am_H} {Q : Option Value → am_H → Prop} : ax k_M_keep 30 ls st σ Q = ax k_M_keep 32 ls (.int 120 :: st) σ Q := ru_bipush f_M_keep_30 (by decide +kernel) rfl
theorem f_M_keep_32 : am_cd k_M_keep 32 = some (none, .dup2, (0, 0, 0, 0, 0, .null)) := rfl
theorem s_M_keep_32 {ls : am_L} {st : List Value} {σ : am_H} {Q : Option Value → am_H → Prop} {a : Nat} {x : Int32} : ax k_M_keep 32 ls (.int x :: .ref a :: st) σ Q = ax k_M_keep 33 ls (.int x :: .ref a :: .int x :: .ref a :: st) σ Q := ru_pure f_M_keep_32 rfl rfl
theorem f_M_keep_33 : am_cd k_M_keep 33 = some (none, .iaload, (0, 0, 0, 0, 0, .null)) := rfl
theorem s_M_keep_33 {ls : am_L} {st : List Value} {σ : am_H} {Q : Option Value → am_H → Prop} {a : Nat} {j : Int32} : ax k_M_keep 33 ls (.int j :: .ref a :: st) σ Q = ax_f (am_j σ a) (fun q => q.1 = 0 ∧ am_ix j q.2.1 ∧ ax k_M_keep 34 ls (.int (q.2.2 j.toNatClampNeg) :: st) σ Q) := rv_iald f_M_keep_33 rfl
theorem f_M_keep_34 : am_cd k_M_keep 34 = some (none, .iconst 1, (0, 0, 0, 0, 0, .null)) := rfl
theorem s_M_keep_34 {ls : am_L} {st : List Value} {σ : am_H} {Q : Option Value → am_H → Prop} : ax k_M_keep 34 ls st σ Q = ax k_M_keep 35 ls (.int 1 :: st) σ Q := ru_iconst f_M_keep_34 (by decide +kernel) rfl
theorem f_M_keep_35 : am_cd k_M_keep 35 = some (none, .aload_n 0, (0, 0, 0, 0, 0, .null)) := rfl
theorem s_M_keep_35 {a1 : Option Value} {st : List Value} {σ : am_H} {Q : Option Value → am_H → Prop} {x : Nat} : ax k_M_keep 35 [some (.ref x), a1] st σ Q = ax k_M_keep 36 [some (.ref x), a1] (.ref x :: st) σ Q := ru_loc (q := (_, _)) f_M_keep_35 rfl rfl rfl
theorem f_M_keep_36 : am_cd k_M_keep 36 = some (none, .getfield 257, (11, 43, 960, 0, 0, .null)) := rfl
theorem s_M_keep_36 {ls : am_L} {st : List Value} {σ : am_H} {Q : Option Value → am_H → Prop} {a : Nat} : ax k_M_keep 36 ls (.ref a :: st) σ Q = ax_f (am_fld σ a 11 43) (fun v => ax k_M_keep 39 ls (v :: st) σ Q) := ru_getf f_M_keep_36 rfl
theorem f_M_keep_39 : am_cd k_M_keep 39 = some (none, .ishl, (0, 0, 0, 0, 0, .null)) := rfl
theorem s_M_keep_39 {ls : am_L} {st : List Value} {σ : am_H} {Q : Option Value → am_H → Prop} {x y : Int32} : ax k_M_keep 39 ls (.int y :: .int x :: st) σ Q = ax k_M_keep 40 ls (.int (x <<< (y &&& 31)) :: st) σ Q := ru_pure f_M_keep_39 rfl rfl
theorem f_M_keep_40 : am_cd k_M_keep 40 = some (none, .ior, (0, 0, 0, 0, 0, .null)) := rfl
theorem s_M_keep_40 {ls : am_L} {st : List Value} {σ : am_H} {Q : Option Value → am_H → Prop} {x y : Int32} : ax k_M_keep 40 ls (.int y :: .int x :: st) σ Q = ax k_M_keep 41 ls (.int (x ||| y) :: st) σ Q := ru_pure f_M_keep_40 rfl rfl
theorem f_M_keep_41 : am_cd k_M_keep 41 = some (none, .iastore, (0, 0, 0, 0, 0, .null)) := rfl
theorem s_M_keep_41 {ls : am_L} {st : List Value} {σ : am_H} {Q : Option Value → am_H → Prop} {a : Nat} {j x : Int32} : ax k_M_keep 41 ls (.int x :: .int j :: .ref a :: st) σ Q = ax_f (am_j σ a) (fun q => q.1 = 0 ∧ am_ix j q.2.1 ∧ a < am_top ∧ ax k_M_keep 42 ls st (am_set σ a (am_ia 0 q.2.1 (upd q.2.2 j.toNatClampNeg x))) Q) := rv_iast f_M_keep_41 rfl
theorem f_M_keep_42 : am_cd k_M_keep 42 = some (none, .iload_n 1, (0, 0, 0, 0, 0, .null)) := rfl
theorem s_M_keep_42 {a0 : Option Value} {st : List Value} {σ : am_H} {Q : Option Value → am_H → Prop} {x : Int32} : ax k_M_keep 42 [a0, some (.int x)] st σ Q = ax k_M_keep 43 [a0, some (.int x)] (.int x :: st) σ Q := ru_loc (q := (_, _)) f_M_keep_42 rfl rfl rfl
theorem f_M_keep_43 : am_cd k_M_keep 43 = some (none, .bipush 6, (0, 0, 0, 0, 0, .null)) := rfl
theorem s_M_keep_43 {ls : am_L} {st : List Value} {σ : am_H} {Q : Option Value → am_H → Prop} : ax k_M_keep 43 ls st σ Q = ax k_M_keep 45 ls (.int 6 :: st) σ Q := ru_bipush f_M_keep_43 (by decide +kernel) rfl
theorem f_M_keep_45 : am_cd k_M_keep 45 = some (none, .if_icmp .ne 14, (59, 0, 0, 0, 0, .null)) := rfl
theorem s_M_keep_45 {ls : am_L} {st : List Value} {σ : am_H} {Q : Option Value → am_H → Prop} {x y : Int32} : ax k_M_keep 45 ls (.int y :: .int x :: st) σ Q = (if x = y then ax k_M_keep 48 ls st σ Q else ax k_M_keep 59 ls st σ Q) := (ru_icmp f_M_keep_45 rfl).trans (ru_i_ne _ _ _ _)
theorem f_M_keep_48 : am_cd k_M_keep 48 = some (none, .aload_n 0, (0, 0, 0, 0, 0, .null)) := rfl
theorem s_M_keep_48 {a1 : Option Value} {st : List Value} {σ : am_H} {Q : Option Value → am_H → Prop} {x : Nat} : ax k_M_keep 48 [some (.ref x), a1] st σ Q = ax k_M_keep 49 [some (.ref x), a1] (.ref x :: st) σ Q := ru_loc (q := (_, _)) f_M_keep_48 rfl rfl rfl
theorem f_M_keep_49 : am_cd k_M_keep 49 = some (none, .getfield 87, (11, 34, 951, 0, 3, .null)) := rfl
theorem s_M_keep_49 {ls : am_L} {st : List Value} {σ : am_H} {Q : Option Value → am_H → Prop} {a : Nat} : ax k_M_keep 49 ls (.ref a :: st) σ Q = ax_f (am_fld σ a 11 34) (fun v => ax k_M_keep 52 ls (v :: st) σ Q) := ru_getf f_M_keep_49 rfl
theorem f_M_keep_52 : am_cd k_M_keep 52 = some (none, .bipush 120, (0, 0, 0, 0, 0, .null)) := rfl
theorem s_M_keep_52 {ls : am_L} {st : List Value} {σ : am_H} {Q : Option Value → am_H → Prop} : ax k_M_keep 52 ls st σ Q = ax k_M_keep 54 ls (.int 120 :: st) σ Q := ru_bipush f_M_keep_52 (by decide +kernel) rfl
theorem f_M_keep_54 : am_cd k_M_keep 54 = some (none, .aload_n 0, (0, 0, 0, 0, 0, .null)) := rfl
theorem s_M_keep_54 {a1 : Option Value} {st : List Value} {σ : am_H} {Q : Option Value → am_H → Prop} {x : Nat} : ax k_M_keep 54 [some (.ref x), a1] st σ Q = ax k_M_keep 55 [some (.ref x), a1] (.ref x :: st) σ Q := ru_loc (q := (_, _)) f_M_keep_54 rfl rfl rfl
theorem f_M_keep_55 : am_cd k_M_keep 55 = some (none, .getfield 257, (11, 43, 960, 0, 0, .null)) := rfl
theorem s_M_keep_55 {ls : am_L} {st : List Value} {σ : am_H} {Q : Option Value → am_H → Prop} {a : Nat} : ax k_M_keep 55 ls (.ref a :: st) σ Q = ax_f (am_fld σ a 11 43) (fun v => ax k_M_keep 58 ls (v :: st) σ Q) := ru_getf f_M_keep_55 rfl
theorem f_M_keep_58 : am_cd k_M_keep 58 = some (none, .iastore, (0, 0, 0, 0, 0, .null)) := rfl
theorem s_M_keep_58 {ls : am_L} {st : List Value} {σ : am_H} {Q : Option Value → am_H → Prop} {a : Nat} {j x : Int32} : ax k_M_keep 58 ls (.int x :: .int j :: .ref a :: st) σ Q = ax_f (am_j σ a) (fun q => q.1 = 0 ∧ am_ix j q.2.1 ∧ a < am_top ∧ ax k_M_keep 59 ls st (am_set σ a (am_ia 0 q.2.1 (upd q.2.2 j.toNatClampNeg x))) Q) := rv_iast f_M_keep_58 rfl
theorem f_M_keep_59 : am_cd k_M_keep 59 = some (none, .iload_n 1, (0, 0, 0, 0, 0, .null)) := rfl
theorem s_M_keep_59 {a0 : Option Value} {st : List Value} {σ : am_H} {Q : Option Value → am_H → Prop} {x : Int32} : ax k_M_keep 59 [a0, some (.int x)] st σ Q = ax k_M_keep 60 [a0, some (.int x)] (.int x :: st) σ Q := ru_loc (q := (_, _)) f_M_keep_59 rfl rfl rfl
theorem f_M_keep_60 : am_cd k_M_keep 60 = some (none, .bipush 7, (0, 0, 0, 0, 0, .null)) := rfl
theorem s_M_keep_60 {ls : am_L} {st : List Value} {σ : am_H} {Q : Option Value → am_H → Prop} : ax k_M_keep 60 ls st σ Q = ax k_M_keep 62 ls (.int 7 :: st) σ Q := ru_bipush f_M_keep_60 (by decide +kernel) rfl
theorem f_M_keep_62 : am_cd k_M_keep 62 = some (none, .if_icmp .ne 14, (76, 0, 0, 0, 0, .null)) := rfl
theorem s_M_keep_62 {ls : am_L} {st : List Value} {σ : am_H} {Q : Option Value → am_H → Prop} {x y : Int32} : ax k_M_keep 62 ls (.int y :: .int x :: st) σ Q = (if x = y then ax k_M_keep 65 ls st σ Q else ax k_M_keep 76 ls st σ Q) := (ru_icmp f_M_keep_62 rfl).trans (ru_i_ne _ _ _ _)
theorem f_M_keep_65 : am_cd k_M_keep 65 = some (none, .aload_n 0, (0, 0, 0, 0, 0, .null)) := rfl
theorem s_M_keep_65 {a1 : Option Value} {st : List Value} {σ : am_H} {Q : Option Value → am_H → Prop} {x : Nat} : ax k_M_keep 65 [some (.ref x), a1] st σ Q = ax k_M_keep 66 [some (.ref x), a1] (.ref x :: st) σ Q := ru_loc (q := (_, _)) f_M_keep_65 rfl rfl rfl
theorem f_M_keep_66 : am_cd k_M_keep 66 = some (none, .getfield 93, (11, 36, 953, 0, 3, .null)) := rfl
theorem s_M_keep_66 {ls : am_L} {st : List Value} {σ : am_H} {Q : Option Value → am_H → Prop} {a : Nat} : ax k_M_keep 66 ls (.ref a :: st) σ Q = ax_f (am_fld σ a 11 36) (fun v => ax k_M_keep 69 ls (v :: st) σ Q) := ru_getf f_M_keep_66 rfl
theorem f_M_keep_69 : am_cd k_M_keep 69 = some (none, .bipush 120, (0, 0, 0, 0, 0, .null)) := rfl
theorem s_M_keep_69 {ls : am_L} {st : List Value} {σ : am_H} {Q : Option Value → am_H → Prop} : ax k_M_keep 69 ls st σ Q = ax k_M_keep 71 ls (.int 120 :: st) σ Q := ru_bipush f_M_keep_69 (by decide +kernel) rfl
theorem f_M_keep_71 : am_cd k_M_keep 71 = some (none, .aload_n 0, (0, 0, 0, 0, 0, .null)) := rfl
theorem s_M_keep_71 {a1 : Option Value} {st : List Value} {σ : am_H} {Q : Option Value → am_H → Prop} {x : Nat} : ax k_M_keep 71 [some (.ref x), a1] st σ Q = ax k_M_keep 72 [some (.ref x), a1] (.ref x :: st) σ Q := ru_loc (q := (_, _)) f_M_keep_71 rfl rfl rfl
theorem f_M_keep_72 : am_cd k_M_keep 72 = some (none, .getfield 257, (11, 43, 960, 0, 0, .null)) := rfl
theorem s_M_keep_72 {ls : am_L} {st : List Value} {σ : am_H} {Q : Option Value → am_H → Prop} {a : Nat} : ax k_M_keep 72 ls (.ref a :: st) σ Q = ax_f (am_fld σ a 11 43) (fun v => ax k_M_keep 75 ls (v :: st) σ Q) := ru_getf f_M_keep_72 rfl
theorem f_M_keep_75 : am_cd k_M_keep 75 = some (none, .iastore, (0, 0, 0, 0, 0, .null)) := rfl
theorem s_M_keep_75 {ls : am_L} {st : List Value} {σ : am_H} {Q : Option Value → am_H → Prop} {a : Nat} {j x : Int32} : ax k_M_keep 75 ls (.int x :: .int j :: .ref a :: st) σ Q = ax_f (am_j σ a) (fun q => q.1 = 0 ∧ am_ix j q.2.1 ∧ a < am_top ∧ ax k_M_keep 76 ls st (am_set σ a (am_ia 0 q.2.1 (upd q.2.2 j.toNatClampNeg x))) Q) := rv_iast f_M_keep_75 rfl
theorem f_M_keep_76 : am_cd k_M_keep 76 = some (none, .iload_n 1, (0, 0, 0, 0, 0, .null)) := rfl
theorem s_M_keep_76 {a0 : Option Value} {st : List Value} {σ : am_H} {Q : Option Value → am_H → Prop} {x : Int32} : ax k_M_keep 76 [a0, some (.int x)] st σ Q = ax k_M_keep 77 [a0, some (.int x)] (.int x :: st) σ Q := ru_loc (q := (_, _)) f_M_keep_76 rfl rfl rfl
theorem f_M_keep_77 : am_cd k_M_keep 77 = some (none, .bipush 8, (0, 0, 0, 0, 0, .null)) := rfl
theorem s_M_keep_77 {ls : am_L} {st : List Value} {σ : am_H} {Q : Option Value → am_H → Prop} : ax k_M_keep 77 ls st σ Q = ax k_M_keep 79 ls (.int 8 :: st) σ Q := ru_bipush f_M_keep_77 (by decide +kernel) rfl
theorem f_M_keep_79 : am_cd k_M_keep 79 = some (none, .if_icmp .ne 19, (98, 0, 0, 0, 0, .null)) := rfl
theorem s_M_keep_79 {ls : am_L} {st : List Value} {σ : am_H} {Q : Option Value → am_H → Prop} {x y : Int32} : ax k_M_keep 79 ls (.int y :: .int x :: st) σ Q = (if x = y then ax k_M_keep 82 ls st σ Q else ax k_M_keep 98 ls st σ Q) := (ru_icmp f_M_keep_79 rfl).trans (ru_i_ne _ _ _ _)
theorem f_M_keep_82 : am_cd k_M_keep 82 = some (none, .aload_n 0, (0, 0, 0, 0, 0, .null)) := rfl
theorem s_M_keep_82 {a1 : Option Value} {st : List Value} {σ : am_H} {Q : Option Value → am_H → Prop} {x : Nat} : ax k_M_keep 82 [some (.ref x), a1] st σ Q = ax k_M_keep 83 [some (.ref x), a1] (.ref x :: st) σ Q := ru_loc (q := (_, _)) f_M_keep_82 rfl rfl rfl
theorem f_M_keep_83 : am_cd k_M_keep 83 = some (none, .getfield 96, (11, 37, 954, 0, 3, .null)) := rfl
theorem s_M_keep_83 {ls : am_L} {st : List Value} {σ : am_H} {Q : Option Value → am_H → Prop} {a : Nat} : ax k_M_keep 83 ls (.ref a :: st) σ Q = ax_f (am_fld σ a 11 37) (fun v => ax k_M_keep 86 ls (v :: st) σ Q) := ru_getf f_M_keep_83 rfl
theorem f_M_keep_86 : am_cd k_M_keep 86 = some (none, .bipush 120, (0, 0, 0, 0, 0, .null)) := rfl
theorem s_M_keep_86 {ls : am_L} {st : List Value} {σ : am_H} {Q : Option Value → am_H → Prop} : ax k_M_keep 86 ls st σ Q = ax k_M_keep 88 ls (.int 120 :: st) σ Q := ru_bipush f_M_keep_86 (by decide +kernel) rfl
theorem f_M_keep_88 : am_cd k_M_keep 88 = some (none, .dup2, (0, 0, 0, 0, 0, .null)) := rfl
theorem s_M_keep_88 {ls : am_L} {st : List Value} {σ : am_H} {Q : Option Value → am_H → Prop} {a : Nat} {x : Int32} : ax k_M_keep 88 ls (.int x :: .ref a :: st) σ Q = ax k_M_keep 89 ls (.int x :: .ref a :: .int x :: .ref a :: st) σ Q := ru_pure f_M_keep_88 rfl rfl
theorem f_M_keep_89 : am_cd k_M_keep 89 = some (none, .laload, (0, 0, 0, 0, 0, .null)) := rfl
theorem s_M_keep_89 {ls : am_L} {st : List Value} {σ : am_H} {Q : Option Value → am_H → Prop} {a : Nat} {j : Int32} : ax k_M_keep 89 ls (.int j :: .ref a :: st) σ Q = ax_f (am_lv σ a) (fun q => am_ix j q.1 ∧ ax k_M_keep 90 ls (.long (q.2 j.toNatClampNeg) :: st) σ Q) := ru_lald f_M_keep_89 rfl
theorem f_M_keep_90 : am_cd k_M_keep 90 = some (none, .lconst 1, (0, 0, 0, 0, 0, .null)) := rfl
theorem s_M_keep_90 {ls : am_L} {st : List Value} {σ : am_H} {Q : Option Value → am_H → Prop} : ax k_M_keep 90 ls st σ Q = ax k_M_keep 91 ls (.long 1 :: st) σ Q := ru_lconst f_M_keep_90 (by decide +kernel) rfl
theorem f_M_keep_91 : am_cd k_M_keep 91 = some (none, .aload_n 0, (0, 0, 0, 0, 0, .null)) := rfl
theorem s_M_keep_91 {a1 : Option Value} {st : List Value} {σ : am_H} {Q : Option Value → am_H → Prop} {x : Nat} : ax k_M_keep 91 [some (.ref x), a1] st σ Q = ax k_M_keep 92 [some (.ref x), a1] (.ref x :: st) σ Q := ru_loc (q := (_, _)) f_M_keep_91 rfl rfl rfl
theorem f_M_keep_92 : am_cd k_M_keep 92 = some (none, .getfield 257, (11, 43, 960, 0, 0, .null)) := rfl
theorem s_M_keep_92 {ls : am_L} {st : List Value} {σ : am_H} {Q : Option Value → am_H → Prop} {a : Nat} : ax k_M_keep 92 ls (.ref a :: st) σ Q = ax_f (am_fld σ a 11 43) (fun v => ax k_M_keep 95 ls (v :: st) σ Q) := ru_getf f_M_keep_92 rfl
theorem f_M_keep_95 : am_cd k_M_keep 95 = some (none, .lshl, (0, 0, 0, 0, 0, .null)) := rfl
theorem s_M_keep_95 {ls : am_L} {st : List Value} {σ : am_H} {Q : Option Value → am_H → Prop} {x : Int64} {y : Int32} : ax k_M_keep 95 ls (.int y :: .long x :: st) σ Q = ax k_M_keep 96 ls (.long (x <<< (y.toInt64 &&& 63)) :: st) σ Q := ru_pure f_M_keep_95 rfl rfl
theorem f_M_keep_96 : am_cd k_M_keep 96 = some (none, .lor, (0, 0, 0, 0, 0, .null)) := rfl
theorem s_M_keep_96 {ls : am_L} {st : List Value} {σ : am_H} {Q : Option Value → am_H → Prop} {x y : Int64} : ax k_M_keep 96 ls (.long y :: .long x :: st) σ Q = ax k_M_keep 97 ls (.long (x ||| y) :: st) σ Q := ru_pure f_M_keep_96 rfl rfl
theorem f_M_keep_97 : am_cd k_M_keep 97 = some (none, .lastore, (0, 0, 0, 0, 0, .null)) := rfl
theorem s_M_keep_97 {ls : am_L} {st : List Value} {σ : am_H} {Q : Option Value → am_H → Prop} {a : Nat} {j : Int32} {x : Int64} : ax k_M_keep 97 ls (.long x :: .int j :: .ref a :: st) σ Q = ax_f (am_lv σ a) (fun q => am_ix j q.1 ∧ a < am_top ∧ ax k_M_keep 98 ls st (am_set σ a (am_la q.1 (vp_updL q.2 j.toNatClampNeg x))) Q) := ru_last f_M_keep_97 rfl
theorem f_M_keep_98 : am_cd k_M_keep 98 = some (none, .return_, (0, 0, 0, 0, 0, .null)) := rfl
theorem s_M_keep_98 {ls : am_L} {σ : am_H} {Q : Option Value → am_H → Prop} : ax k_M_keep 98 ls ([]) σ Q = Q none σ := ru_ret f_M_keep_98 rfl rfl rfl rfl rfl rfl rfl
theorem f_M_clause_0 : am_cd k_M_clause 0 = some ((some .int), .aload_n 0, (0, 0, 0, 0, 0, .null)) := rfl
theorem s_M_clause_0 {a1 a2 : Option Value} {st : List Value} {σ : am_H} {Q : Option Value → am_H → Prop} {x : Nat} : ax k_M_clause 0 [some (.ref x), a1, a2] st σ Q = ax k_M_clause 1 [some (.ref x), a1, a2] (.ref x :: st) σ Q := ru_loc (q := (_, _)) f_M_clause_0 rfl rfl rfl
theorem f_M_clause_1 : am_cd k_M_clause 1 = some ((some .int), .getfield 251, (11, 42, 959, 0, 0, .null)) := rfl
theorem s_M_clause_1 {ls : am_L} {st : List Value} {σ : am_H} {Q : Option Value → am_H → Prop} {a : Nat} : ax k_M_clause 1 ls (.ref a :: st) σ Q = ax_f (am_fld σ a 11 42) (fun v => ax k_M_clause 4 ls (v :: st) σ Q) := ru_getf f_M_clause_1 rfl
theorem f_M_clause_4 : am_cd k_M_clause 4 = some ((some .int), .iconst 4, (0, 0, 0, 0, 0, .null)) := rfl
theorem s_M_clause_4 {ls : am_L} {st : List Value} {σ : am_H} {Q : Option Value → am_H → Prop} : ax k_M_clause 4 ls st σ Q = ax k_M_clause 5 ls (.int 4 :: st) σ Q := ru_iconst f_M_clause_4 (by decide +kernel) rfl
theorem f_M_clause_5 : am_cd k_M_clause 5 = some ((some .int), .bipush 8, (0, 0, 0, 0, 0, .null)) := rfl
theorem s_M_clause_5 {ls : am_L} {st : List Value} {σ : am_H} {Q : Option Value → am_H → Prop} : ax k_M_clause 5 ls st σ Q = ax k_M_clause 7 ls (.int 8 :: st) σ Q := ru_bipush f_M_clause_5 (by decide +kernel) rfl
theorem f_M_clause_7 : am_cd k_M_clause 7 = some ((some .int), .invokestatic 154, (113, 3, 1110, 0, 11, .null)) := rfl
theorem s_M_clause_7 {ls : am_L} {st : List Value} {σ : am_H} {Q : Option Value → am_H → Prop} {p0 : Int32} {p1 : Int32} {p2 : Int32} (h8 : am_s8 st) : ax k_M_clause 7 ls (.int p2 :: .int p1 :: .int p0 :: st) σ Q = ax k_M_isIn 0 [some (.int p0), some (.int p1), some (.int p2)] [] σ (ax_k k_M_clause 10 ls st Q) := ru_sta (M' := rk_M_isIn) f_M_clause_7 rfl (by decide) rfl (by simp) rfl h8 rfl rfl rfl rfl rfl
theorem f_M_clause_10 : am_cd k_M_clause 10 = some ((some .int), .ifCond .ne 5, (15, 0, 0, 0, 0, .null)) := rfl
theorem s_M_clause_10 {ls : am_L} {st : List Value} {σ : am_H} {Q : Option Value → am_H → Prop} {x : Int32} : ax k_M_clause 10 ls (.int x :: st) σ Q = (if x = 0 then ax k_M_clause 13 ls st σ Q else ax k_M_clause 15 ls st σ Q) := (ru_if f_M_clause_10 rfl).trans (ru_i_ne _ _ _ _)
theorem f_M_clause_13 : am_cd k_M_clause 13 = some ((some .int), .iconst 1, (0, 0, 0, 0, 0, .null)) := rfl
theorem s_M_clause_13 {ls : am_L} {st : List Value} {σ : am_H} {Q : Option Value → am_H → Prop} : ax k_M_clause 13 ls st σ Q = ax k_M_clause 14 ls (.int 1 :: st) σ Q := ru_iconst f_M_clause_13 (by decide +kernel) rfl
theorem f_M_clause_14 : am_cd k_M_clause 14 = some ((some .int), .ireturn, (0, 0, 0, 0, 0, .null)) := rfl
theorem s_M_clause_14 {ls : am_L} {σ : am_H} {Q : Option Value → am_H → Prop} {v : Int32} : ax k_M_clause 14 ls [.int v] σ Q = Q (some (.int v)) σ := ru_iretI f_M_clause_14
theorem f_M_clause_15 : am_cd k_M_clause 15 = some ((some .int), .aload_n 0, (0, 0, 0, 0, 0, .null)) := rfl
theorem s_M_clause_15 {a1 a2 : Option Value} {st : List Value} {σ : am_H} {Q : Option Value → am_H → Prop} {x : Nat} : ax k_M_clause 15 [some (.ref x), a1, a2] st σ Q = ax k_M_clause 16 [some (.ref x), a1, a2] (.ref x :: st) σ Q := ru_loc (q := (_, _)) f_M_clause_15 rfl rfl rfl
theorem f_M_clause_16 : am_cd k_M_clause 16 = some ((some .int), .getfield 251, (11, 42, 959, 0, 0, .null)) := rfl
theorem s_M_clause_16 {ls : am_L} {st : List Value} {σ : am_H} {Q : Option Value → am_H → Prop} {a : Nat} : ax k_M_clause 16 ls (.ref a :: st) σ Q = ax_f (am_fld σ a 11 42) (fun v => ax k_M_clause 19 ls (v :: st) σ Q) := ru_getf f_M_clause_16 rfl
theorem f_M_clause_19 : am_cd k_M_clause 19 = some ((some .int), .istore_n 1, (0, 0, 0, 0, 0, .null)) := rfl
theorem s_M_clause_19 {a0 a1 a2 : Option Value} {st : List Value} {σ : am_H} {Q : Option Value → am_H → Prop} {x : Int32} (hc : am_c2 a0 = false) : ax k_M_clause 19 [a0, a1, a2] (.int x :: st) σ Q = ax k_M_clause 20 [a0, some (.int x), a2] st σ Q := ru_istore_n f_M_clause_19 (Nat.le_of_ble_eq_true rfl) (ru_st1 (Nat.le_of_ble_eq_true rfl) (am_clr_c2 hc rfl) rfl) rfl
theorem f_M_clause_20 : am_cd k_M_clause 20 = some ((some .int), .aload_n 0, (0, 0, 0, 0, 0, .null)) := rfl
theorem s_M_clause_20 {a1 a2 : Option Value} {st : List Value} {σ : am_H} {Q : Option Value → am_H → Prop} {x : Nat} : ax k_M_clause 20 [some (.ref x), a1, a2] st σ Q = ax k_M_clause 21 [some (.ref x), a1, a2] (.ref x :: st) σ Q := ru_loc (q := (_, _)) f_M_clause_20 rfl rfl rfl
theorem f_M_clause_21 : am_cd k_M_clause 21 = some ((some .int), .getfield 78, (11, 31, 948, 0, 3, .null)) := rfl
theorem s_M_clause_21 {ls : am_L} {st : List Value} {σ : am_H} {Q : Option Value → am_H → Prop} {a : Nat} : ax k_M_clause 21 ls (.ref a :: st) σ Q = ax_f (am_fld σ a 11 31) (fun v => ax k_M_clause 24 ls (v :: st) σ Q) := ru_getf f_M_clause_21 rfl
theorem f_M_clause_24 : am_cd k_M_clause 24 = some ((some .int), .bipush 120, (0, 0, 0, 0, 0, .null)) := rfl
theorem s_M_clause_24 {ls : am_L} {st : List Value} {σ : am_H} {Q : Option Value → am_H → Prop} : ax k_M_clause 24 ls st σ Q = ax k_M_clause 26 ls (.int 120 :: st) σ Q := ru_bipush f_M_clause_24 (by decide +kernel) rfl
theorem f_M_clause_26 : am_cd k_M_clause 26 = some ((some .int), .iaload, (0, 0, 0, 0, 0, .null)) := rfl
theorem s_M_clause_26 {ls : am_L} {st : List Value} {σ : am_H} {Q : Option Value → am_H → Prop} {a : Nat} {j : Int32} : ax k_M_clause 26 ls (.int j :: .ref a :: st) σ Q = ax_f (am_j σ a) (fun q => q.1 = 0 ∧ am_ix j q.2.1 ∧ ax k_M_clause 27 ls (.int (q.2.2 j.toNatClampNeg) :: st) σ Q) := rv_iald f_M_clause_26 rfl
theorem f_M_clause_27 : am_cd k_M_clause 27 = some ((some .int), .iload_n 1, (0, 0, 0, 0, 0, .null)) := rfl
theorem s_M_clause_27 {a0 a2 : Option Value} {st : List Value} {σ : am_H} {Q : Option Value → am_H → Prop} {x : Int32} : ax k_M_clause 27 [a0, some (.int x), a2] st σ Q = ax k_M_clause 28 [a0, some (.int x), a2] (.int x :: st) σ Q := ru_loc (q := (_, _)) f_M_clause_27 rfl rfl rfl
theorem f_M_clause_28 : am_cd k_M_clause 28 = some ((some .int), .ishr, (0, 0, 0, 0, 0, .null)) := rfl
theorem s_M_clause_28 {ls : am_L} {st : List Value} {σ : am_H} {Q : Option Value → am_H → Prop} {x y : Int32} : ax k_M_clause 28 ls (.int y :: .int x :: st) σ Q = ax k_M_clause 29 ls (.int (x >>> (y &&& 31)) :: st) σ Q := ru_pure f_M_clause_28 rfl rfl
theorem f_M_clause_29 : am_cd k_M_clause 29 = some ((some .int), .iconst 1, (0, 0, 0, 0, 0, .null)) := rfl
theorem s_M_clause_29 {ls : am_L} {st : List Value} {σ : am_H} {Q : Option Value → am_H → Prop} : ax k_M_clause 29 ls st σ Q = ax k_M_clause 30 ls (.int 1 :: st) σ Q := ru_iconst f_M_clause_29 (by decide +kernel) rfl
theorem f_M_clause_30 : am_cd k_M_clause 30 = some ((some .int), .iand, (0, 0, 0, 0, 0, .null)) := rfl
theorem s_M_clause_30 {ls : am_L} {st : List Value} {σ : am_H} {Q : Option Value → am_H → Prop} {x y : Int32} : ax k_M_clause 30 ls (.int y :: .int x :: st) σ Q = ax k_M_clause 31 ls (.int (x &&& y) :: st) σ Q := ru_pure f_M_clause_30 rfl rfl
theorem f_M_clause_31 : am_cd k_M_clause 31 = some ((some .int), .iconst 1, (0, 0, 0, 0, 0, .null)) := rfl
theorem s_M_clause_31 {ls : am_L} {st : List Value} {σ : am_H} {Q : Option Value → am_H → Prop} : ax k_M_clause 31 ls st σ Q = ax k_M_clause 32 ls (.int 1 :: st) σ Q := ru_iconst f_M_clause_31 (by decide +kernel) rfl
theorem f_M_clause_32 : am_cd k_M_clause 32 = some ((some .int), .if_icmp .ne 5, (37, 0, 0, 0, 0, .null)) := rfl
theorem s_M_clause_32 {ls : am_L} {st : List Value} {σ : am_H} {Q : Option Value → am_H → Prop} {x y : Int32} : ax k_M_clause 32 ls (.int y :: .int x :: st) σ Q = (if x = y then ax k_M_clause 35 ls st σ Q else ax k_M_clause 37 ls st σ Q) := (ru_icmp f_M_clause_32 rfl).trans (ru_i_ne _ _ _ _)
theorem f_M_clause_35 : am_cd k_M_clause 35 = some ((some .int), .iconst 2, (0, 0, 0, 0, 0, .null)) := rfl
theorem s_M_clause_35 {ls : am_L} {st : List Value} {σ : am_H} {Q : Option Value → am_H → Prop} : ax k_M_clause 35 ls st σ Q = ax k_M_clause 36 ls (.int 2 :: st) σ Q := ru_iconst f_M_clause_35 (by decide +kernel) rfl
theorem f_M_clause_36 : am_cd k_M_clause 36 = some ((some .int), .ireturn, (0, 0, 0, 0, 0, .null)) := rfl
theorem s_M_clause_36 {ls : am_L} {σ : am_H} {Q : Option Value → am_H → Prop} {v : Int32} : ax k_M_clause 36 ls [.int v] σ Q = Q (some (.int v)) σ := ru_iretI f_M_clause_36
theorem f_M_clause_37 : am_cd k_M_clause 37 = some ((some .int), .aload_n 0, (0, 0, 0, 0, 0, .null)) := rfl
theorem s_M_clause_37 {a1 a2 : Option Value} {st : List Value} {σ : am_H} {Q : Option Value → am_H → Prop} {x : Nat} : ax k_M_clause 37 [some (.ref x), a1, a2] st σ Q = ax k_M_clause 38 [some (.ref x), a1, a2] (.ref x :: st) σ Q := ru_loc (q := (_, _)) f_M_clause_37 rfl rfl rfl
theorem f_M_clause_38 : am_cd k_M_clause 38 = some ((some .int), .getfield 78, (11, 31, 948, 0, 3, .null)) := rfl
theorem s_M_clause_38 {ls : am_L} {st : List Value} {σ : am_H} {Q : Option Value → am_H → Prop} {a : Nat} : ax k_M_clause 38 ls (.ref a :: st) σ Q = ax_f (am_fld σ a 11 31) (fun v => ax k_M_clause 41 ls (v :: st) σ Q) := ru_getf f_M_clause_38 rfl
theorem f_M_clause_41 : am_cd k_M_clause 41 = some ((some .int), .bipush 120, (0, 0, 0, 0, 0, .null)) := rfl
theorem s_M_clause_41 {ls : am_L} {st : List Value} {σ : am_H} {Q : Option Value → am_H → Prop} : ax k_M_clause 41 ls st σ Q = ax k_M_clause 43 ls (.int 120 :: st) σ Q := ru_bipush f_M_clause_41 (by decide +kernel) rfl
theorem f_M_clause_43 : am_cd k_M_clause 43 = some ((some .int), .dup2, (0, 0, 0, 0, 0, .null)) := rfl
theorem s_M_clause_43 {ls : am_L} {st : List Value} {σ : am_H} {Q : Option Value → am_H → Prop} {a : Nat} {x : Int32} : ax k_M_clause 43 ls (.int x :: .ref a :: st) σ Q = ax k_M_clause 44 ls (.int x :: .ref a :: .int x :: .ref a :: st) σ Q := ru_pure f_M_clause_43 rfl rfl
theorem f_M_clause_44 : am_cd k_M_clause 44 = some ((some .int), .iaload, (0, 0, 0, 0, 0, .null)) := rfl
theorem s_M_clause_44 {ls : am_L} {st : List Value} {σ : am_H} {Q : Option Value → am_H → Prop} {a : Nat} {j : Int32} : ax k_M_clause 44 ls (.int j :: .ref a :: st) σ Q = ax_f (am_j σ a) (fun q => q.1 = 0 ∧ am_ix j q.2.1 ∧ ax k_M_clause 45 ls (.int (q.2.2 j.toNatClampNeg) :: st) σ Q) := rv_iald f_M_clause_44 rfl
theorem f_M_clause_45 : am_cd k_M_clause 45 = some ((some .int), .iconst 1, (0, 0, 0, 0, 0, .null)) := rfl
theorem s_M_clause_45 {ls : am_L} {st : List Value} {σ : am_H} {Q : Option Value → am_H → Prop} : ax k_M_clause 45 ls st σ Q = ax k_M_clause 46 ls (.int 1 :: st) σ Q := ru_iconst f_M_clause_45 (by decide +kernel) rfl
theorem f_M_clause_46 : am_cd k_M_clause 46 = some ((some .int), .iload_n 1, (0, 0, 0, 0, 0, .null)) := rfl
theorem s_M_clause_46 {a0 a2 : Option Value} {st : List Value} {σ : am_H} {Q : Option Value → am_H → Prop} {x : Int32} : ax k_M_clause 46 [a0, some (.int x), a2] st σ Q = ax k_M_clause 47 [a0, some (.int x), a2] (.int x :: st) σ Q := ru_loc (q := (_, _)) f_M_clause_46 rfl rfl rfl
theorem f_M_clause_47 : am_cd k_M_clause 47 = some ((some .int), .ishl, (0, 0, 0, 0, 0, .null)) := rfl
theorem s_M_clause_47 {ls : am_L} {st : List Value} {σ : am_H} {Q : Option Value → am_H → Prop} {x y : Int32} : ax k_M_clause 47 ls (.int y :: .int x :: st) σ Q = ax k_M_clause 48 ls (.int (x <<< (y &&& 31)) :: st) σ Q := ru_pure f_M_clause_47 rfl rfl
theorem f_M_clause_48 : am_cd k_M_clause 48 = some ((some .int), .ior, (0, 0, 0, 0, 0, .null)) := rfl
theorem s_M_clause_48 {ls : am_L} {st : List Value} {σ : am_H} {Q : Option Value → am_H → Prop} {x y : Int32} : ax k_M_clause 48 ls (.int y :: .int x :: st) σ Q = ax k_M_clause 49 ls (.int (x ||| y) :: st) σ Q := ru_pure f_M_clause_48 rfl rfl
theorem f_M_clause_49 : am_cd k_M_clause 49 = some ((some .int), .iastore, (0, 0, 0, 0, 0, .null)) := rfl
theorem s_M_clause_49 {ls : am_L} {st : List Value} {σ : am_H} {Q : Option Value → am_H → Prop} {a : Nat} {j x : Int32} : ax k_M_clause 49 ls (.int x :: .int j :: .ref a :: st) σ Q = ax_f (am_j σ a) (fun q => q.1 = 0 ∧ am_ix j q.2.1 ∧ a < am_top ∧ ax k_M_clause 50 ls st (am_set σ a (am_ia 0 q.2.1 (upd q.2.2 j.toNatClampNeg x))) Q) := rv_iast f_M_clause_49 rfl
theorem f_M_clause_50 : am_cd k_M_clause 50 = some ((some .int), .aload_n 0, (0, 0, 0, 0, 0, .null)) := rfl
theorem s_M_clause_50 {a1 a2 : Option Value} {st : List Value} {σ : am_H} {Q : Option Value → am_H → Prop} {x : Nat} : ax k_M_clause 50 [some (.ref x), a1, a2] st σ Q = ax k_M_clause 51 [some (.ref x), a1, a2] (.ref x :: st) σ Q := ru_loc (q := (_, _)) f_M_clause_50 rfl rfl rfl
theorem f_M_clause_51 : am_cd k_M_clause 51 = some ((some .int), .invokevirtual 267, (151, 0, 1247, 0, 11, .null)) := rfl
theorem s_M_clause_51 {ls : am_L} {st : List Value} {σ : am_H} {Q : Option Value → am_H → Prop} {b : Nat} (hi : am_is σ b 11) (h8 : am_s8 st) : ax k_M_clause 51 ls (.ref b :: st) σ Q = ax k_M_nextToken 0 [some (.ref b), none, none] [] σ (ax_k k_M_clause 54 ls st Q) := ru_vir (M' := rk_M_nextToken) f_M_clause_51 rfl rfl rfl rfl hi h8 rfl rfl rfl rfl rfl
theorem f_M_clause_54 : am_cd k_M_clause 54 = some ((some .int), .aload_n 0, (0, 0, 0, 0, 0, .null)) := rfl
theorem s_M_clause_54 {a1 a2 : Option Value} {st : List Value} {σ : am_H} {Q : Option Value → am_H → Prop} {x : Nat} : ax k_M_clause 54 [some (.ref x), a1, a2] st σ Q = ax k_M_clause 55 [some (.ref x), a1, a2] (.ref x :: st) σ Q := ru_loc (q := (_, _)) f_M_clause_54 rfl rfl rfl
theorem f_M_clause_55 : am_cd k_M_clause 55 = some ((some .int), .getfield 251, (11, 42, 959, 0, 0, .null)) := rfl
theorem s_M_clause_55 {ls : am_L} {st : List Value} {σ : am_H} {Q : Option Value → am_H → Prop} {a : Nat} : ax k_M_clause 55 ls (.ref a :: st) σ Q = ax_f (am_fld σ a 11 42) (fun v => ax k_M_clause 58 ls (v :: st) σ Q) := ru_getf f_M_clause_55 rfl
theorem f_M_clause_58 : am_cd k_M_clause 58 = some ((some .int), .iconst 1, (0, 0, 0, 0, 0, .null)) := rfl
theorem s_M_clause_58 {ls : am_L} {st : List Value} {σ : am_H} {Q : Option Value → am_H → Prop} : ax k_M_clause 58 ls st σ Q = ax k_M_clause 59 ls (.int 1 :: st) σ Q := ru_iconst f_M_clause_58 (by decide +kernel) rfl
theorem f_M_clause_59 : am_cd k_M_clause 59 = some ((some .int), .if_icmp .eq 5, (64, 0, 0, 0, 0, .null)) := rfl
theorem s_M_clause_59 {ls : am_L} {st : List Value} {σ : am_H} {Q : Option Value → am_H → Prop} {x y : Int32} : ax k_M_clause 59 ls (.int y :: .int x :: st) σ Q = (if x = y then ax k_M_clause 64 ls st σ Q else ax k_M_clause 62 ls st σ Q) := (ru_icmp f_M_clause_59 rfl).trans (ru_i_eq _ _ _ _)
theorem f_M_clause_62 : am_cd k_M_clause 62 = some ((some .int), .iconst 1, (0, 0, 0, 0, 0, .null)) := rfl
theorem s_M_clause_62 {ls : am_L} {st : List Value} {σ : am_H} {Q : Option Value → am_H → Prop} : ax k_M_clause 62 ls st σ Q = ax k_M_clause 63 ls (.int 1 :: st) σ Q := ru_iconst f_M_clause_62 (by decide +kernel) rfl
theorem f_M_clause_63 : am_cd k_M_clause 63 = some ((some .int), .ireturn, (0, 0, 0, 0, 0, .null)) := rfl
theorem s_M_clause_63 {ls : am_L} {σ : am_H} {Q : Option Value → am_H → Prop} {v : Int32} : ax k_M_clause 63 ls [.int v] σ Q = Q (some (.int v)) σ := ru_iretI f_M_clause_63
theorem f_M_clause_64 : am_cd k_M_clause 64 = some ((some .int), .iconst 1, (0, 0, 0, 0, 0, .null)) := rfl
theorem s_M_clause_64 {ls : am_L} {st : List Value} {σ : am_H} {Q : Option Value → am_H → Prop} : ax k_M_clause 64 ls st σ Q = ax k_M_clause 65 ls (.int 1 :: st) σ Q := ru_iconst f_M_clause_64 (by decide +kernel) rfl
theorem f_M_clause_65 : am_cd k_M_clause 65 = some ((some .int), .istore_n 2, (0, 0, 0, 0, 0, .null)) := rfl
theorem s_M_clause_65 {a0 a1 a2 : Option Value} {st : List Value} {σ : am_H} {Q : Option Value → am_H → Prop} {x : Int32} (hc : am_c2 a1 = false) : ax k_M_clause 65 [a0, a1, a2] (.int x :: st) σ Q = ax k_M_clause 66 [a0, a1, some (.int x)] st σ Q := ru_istore_n f_M_clause_65 (Nat.le_of_ble_eq_true rfl) (ru_st1 (Nat.le_of_ble_eq_true rfl) (am_clr_c2 hc rfl) rfl) rfl
theorem f_M_clause_66 : am_cd k_M_clause 66 = some ((some .int), .iload_n 2, (0, 0, 0, 0, 0, .null)) := rfl
theorem s_M_clause_66 {a0 a1 : Option Value} {st : List Value} {σ : am_H} {Q : Option Value → am_H → Prop} {x : Int32} : ax k_M_clause 66 [a0, a1, some (.int x)] st σ Q = ax k_M_clause 67 [a0, a1, some (.int x)] (.int x :: st) σ Q := ru_loc (q := (_, _)) f_M_clause_66 rfl rfl rfl
theorem f_M_clause_67 : am_cd k_M_clause 67 = some ((some .int), .ifCond .eq 51, (118, 0, 0, 0, 0, .null)) := rfl
theorem s_M_clause_67 {ls : am_L} {st : List Value} {σ : am_H} {Q : Option Value → am_H → Prop} {x : Int32} : ax k_M_clause 67 ls (.int x :: st) σ Q = (if x = 0 then ax k_M_clause 118 ls st σ Q else ax k_M_clause 70 ls st σ Q) := (ru_if f_M_clause_67 rfl).trans (ru_i_eq _ _ _ _)
theorem f_M_clause_70 : am_cd k_M_clause 70 = some ((some .int), .aload_n 0, (0, 0, 0, 0, 0, .null)) := rfl
theorem s_M_clause_70 {a1 a2 : Option Value} {st : List Value} {σ : am_H} {Q : Option Value → am_H → Prop} {x : Nat} : ax k_M_clause 70 [some (.ref x), a1, a2] st σ Q = ax k_M_clause 71 [some (.ref x), a1, a2] (.ref x :: st) σ Q := ru_loc (q := (_, _)) f_M_clause_70 rfl rfl rfl
theorem f_M_clause_71 : am_cd k_M_clause 71 = some ((some .int), .iload_n 1, (0, 0, 0, 0, 0, .null)) := rfl
theorem s_M_clause_71 {a0 a2 : Option Value} {st : List Value} {σ : am_H} {Q : Option Value → am_H → Prop} {x : Int32} : ax k_M_clause 71 [a0, some (.int x), a2] st σ Q = ax k_M_clause 72 [a0, some (.int x), a2] (.int x :: st) σ Q := ru_loc (q := (_, _)) f_M_clause_71 rfl rfl rfl
theorem f_M_clause_72 : am_cd k_M_clause 72 = some ((some .int), .invokevirtual 270, (152, 1, 1272, 0, 11, .null)) := rfl
theorem s_M_clause_72 {ls : am_L} {st : List Value} {σ : am_H} {Q : Option Value → am_H → Prop} {p0 : Int32} {b : Nat} (hi : am_is σ b 11) (h8 : am_s8 st) : ax k_M_clause 72 ls (.int p0 :: .ref b :: st) σ Q = ax k_M_isTold 0 [some (.ref b), some (.int p0)] [] σ (ax_k k_M_clause 75 ls st Q) := ru_vir (M' := rk_M_isTold) f_M_clause_72 rfl rfl rfl rfl hi h8 rfl rfl rfl rfl rfl
theorem f_M_clause_75 : am_cd k_M_clause 75 = some ((some .int), .ifCond .ne 5, (80, 0, 0, 0, 0, .null)) := rfl
theorem s_M_clause_75 {ls : am_L} {st : List Value} {σ : am_H} {Q : Option Value → am_H → Prop} {x : Int32} : ax k_M_clause 75 ls (.int x :: st) σ Q = (if x = 0 then ax k_M_clause 78 ls st σ Q else ax k_M_clause 80 ls st σ Q) := (ru_if f_M_clause_75 rfl).trans (ru_i_ne _ _ _ _)
theorem f_M_clause_78 : am_cd k_M_clause 78 = some ((some .int), .iconst 3, (0, 0, 0, 0, 0, .null)) := rfl
theorem s_M_clause_78 {ls : am_L} {st : List Value} {σ : am_H} {Q : Option Value → am_H → Prop} : ax k_M_clause 78 ls st σ Q = ax k_M_clause 79 ls (.int 3 :: st) σ Q := ru_iconst f_M_clause_78 (by decide +kernel) rfl
theorem f_M_clause_79 : am_cd k_M_clause 79 = some ((some .int), .ireturn, (0, 0, 0, 0, 0, .null)) := rfl
theorem s_M_clause_79 {ls : am_L} {σ : am_H} {Q : Option Value → am_H → Prop} {v : Int32} : ax k_M_clause 79 ls [.int v] σ Q = Q (some (.int v)) σ := ru_iretI f_M_clause_79
theorem f_M_clause_80 : am_cd k_M_clause 80 = some ((some .int), .aload_n 0, (0, 0, 0, 0, 0, .null)) := rfl
theorem s_M_clause_80 {a1 a2 : Option Value} {st : List Value} {σ : am_H} {Q : Option Value → am_H → Prop} {x : Nat} : ax k_M_clause 80 [some (.ref x), a1, a2] st σ Q = ax k_M_clause 81 [some (.ref x), a1, a2] (.ref x :: st) σ Q := ru_loc (q := (_, _)) f_M_clause_80 rfl rfl rfl
theorem f_M_clause_81 : am_cd k_M_clause 81 = some ((some .int), .iload_n 1, (0, 0, 0, 0, 0, .null)) := rfl
theorem s_M_clause_81 {a0 a2 : Option Value} {st : List Value} {σ : am_H} {Q : Option Value → am_H → Prop} {x : Int32} : ax k_M_clause 81 [a0, some (.int x), a2] st σ Q = ax k_M_clause 82 [a0, some (.int x), a2] (.int x :: st) σ Q := ru_loc (q := (_, _)) f_M_clause_81 rfl rfl rfl
theorem f_M_clause_82 : am_cd k_M_clause 82 = some ((some .int), .invokevirtual 273, (153, 1, 1276, 0, 11, .null)) := rfl
theorem s_M_clause_82 {ls : am_L} {st : List Value} {σ : am_H} {Q : Option Value → am_H → Prop} {p0 : Int32} {b : Nat} (hi : am_is σ b 11) (h8 : am_s8 st) : ax k_M_clause 82 ls (.int p0 :: .ref b :: st) σ Q = ax k_M_keep 0 [some (.ref b), some (.int p0)] [] σ (ax_k k_M_clause 85 ls st Q) := ru_vir (M' := rk_M_keep) f_M_clause_82 rfl rfl rfl rfl hi h8 rfl rfl rfl rfl rfl
theorem f_M_clause_85 : am_cd k_M_clause 85 = some ((some .int), .aload_n 0, (0, 0, 0, 0, 0, .null)) := rfl
theorem s_M_clause_85 {a1 a2 : Option Value} {st : List Value} {σ : am_H} {Q : Option Value → am_H → Prop} {x : Nat} : ax k_M_clause 85 [some (.ref x), a1, a2] st σ Q = ax k_M_clause 86 [some (.ref x), a1, a2] (.ref x :: st) σ Q := ru_loc (q := (_, _)) f_M_clause_85 rfl rfl rfl
theorem f_M_clause_86 : am_cd k_M_clause 86 = some ((some .int), .invokevirtual 267, (151, 0, 1247, 0, 11, .null)) := rfl
theorem s_M_clause_86 {ls : am_L} {st : List Value} {σ : am_H} {Q : Option Value → am_H → Prop} {b : Nat} (hi : am_is σ b 11) (h8 : am_s8 st) : ax k_M_clause 86 ls (.ref b :: st) σ Q = ax k_M_nextToken 0 [some (.ref b), none, none] [] σ (ax_k k_M_clause 89 ls st Q) := ru_vir (M' := rk_M_nextToken) f_M_clause_86 rfl rfl rfl rfl hi h8 rfl rfl rfl rfl rfl
theorem f_M_clause_89 : am_cd k_M_clause 89 = some ((some .int), .aload_n 0, (0, 0, 0, 0, 0, .null)) := rfl
theorem s_M_clause_89 {a1 a2 : Option Value} {st : List Value} {σ : am_H} {Q : Option Value → am_H → Prop} {x : Nat} : ax k_M_clause 89 [some (.ref x), a1, a2] st σ Q = ax k_M_clause 90 [some (.ref x), a1, a2] (.ref x :: st) σ Q := ru_loc (q := (_, _)) f_M_clause_89 rfl rfl rfl
theorem f_M_clause_90 : am_cd k_M_clause 90 = some ((some .int), .getfield 251, (11, 42, 959, 0, 0, .null)) := rfl
theorem s_M_clause_90 {ls : am_L} {st : List Value} {σ : am_H} {Q : Option Value → am_H → Prop} {a : Nat} : ax k_M_clause 90 ls (.ref a :: st) σ Q = ax_f (am_fld σ a 11 42) (fun v => ax k_M_clause 93 ls (v :: st) σ Q) := ru_getf f_M_clause_90 rfl
theorem f_M_clause_93 : am_cd k_M_clause 93 = some ((some .int), .iconst 1, (0, 0, 0, 0, 0, .null)) := rfl
theorem s_M_clause_93 {ls : am_L} {st : List Value} {σ : am_H} {Q : Option Value → am_H → Prop} : ax k_M_clause 93 ls st σ Q = ax k_M_clause 94 ls (.int 1 :: st) σ Q := ru_iconst f_M_clause_93 (by decide +kernel) rfl
theorem f_M_clause_94 : am_cd k_M_clause 94 = some ((some .int), .if_icmp .ne 19, (113, 0, 0, 0, 0, .null)) := rfl
theorem s_M_clause_94 {ls : am_L} {st : List Value} {σ : am_H} {Q : Option Value → am_H → Prop} {x y : Int32} : ax k_M_clause 94 ls (.int y :: .int x :: st) σ Q = (if x = y then ax k_M_clause 97 ls st σ Q else ax k_M_clause 113 ls st σ Q) := (ru_icmp f_M_clause_94 rfl).trans (ru_i_ne _ _ _ _)
theorem f_M_clause_97 : am_cd k_M_clause 97 = some ((some .int), .iload_n 1, (0, 0, 0, 0, 0, .null)) := rfl
theorem s_M_clause_97 {a0 a2 : Option Value} {st : List Value} {σ : am_H} {Q : Option Value → am_H → Prop} {x : Int32} : ax k_M_clause 97 [a0, some (.int x), a2] st σ Q = ax k_M_clause 98 [a0, some (.int x), a2] (.int x :: st) σ Q := ru_loc (q := (_, _)) f_M_clause_97 rfl rfl rfl
theorem f_M_clause_98 : am_cd k_M_clause 98 = some ((some .int), .bipush 6, (0, 0, 0, 0, 0, .null)) := rfl
theorem s_M_clause_98 {ls : am_L} {st : List Value} {σ : am_H} {Q : Option Value → am_H → Prop} : ax k_M_clause 98 ls st σ Q = ax k_M_clause 100 ls (.int 6 :: st) σ Q := ru_bipush f_M_clause_98 (by decide +kernel) rfl
theorem f_M_clause_100 : am_cd k_M_clause 100 = some ((some .int), .if_icmp .eq 13, (113, 0, 0, 0, 0, .null)) := rfl
theorem s_M_clause_100 {ls : am_L} {st : List Value} {σ : am_H} {Q : Option Value → am_H → Prop} {x y : Int32} : ax k_M_clause 100 ls (.int y :: .int x :: st) σ Q = (if x = y then ax k_M_clause 113 ls st σ Q else ax k_M_clause 103 ls st σ Q) := (ru_icmp f_M_clause_100 rfl).trans (ru_i_eq _ _ _ _)
theorem f_M_clause_103 : am_cd k_M_clause 103 = some ((some .int), .iload_n 1, (0, 0, 0, 0, 0, .null)) := rfl
theorem s_M_clause_103 {a0 a2 : Option Value} {st : List Value} {σ : am_H} {Q : Option Value → am_H → Prop} {x : Int32} : ax k_M_clause 103 [a0, some (.int x), a2] st σ Q = ax k_M_clause 104 [a0, some (.int x), a2] (.int x :: st) σ Q := ru_loc (q := (_, _)) f_M_clause_103 rfl rfl rfl
theorem f_M_clause_104 : am_cd k_M_clause 104 = some ((some .int), .bipush 7, (0, 0, 0, 0, 0, .null)) := rfl
theorem s_M_clause_104 {ls : am_L} {st : List Value} {σ : am_H} {Q : Option Value → am_H → Prop} : ax k_M_clause 104 ls st σ Q = ax k_M_clause 106 ls (.int 7 :: st) σ Q := ru_bipush f_M_clause_104 (by decide +kernel) rfl
theorem f_M_clause_106 : am_cd k_M_clause 106 = some ((some .int), .if_icmp .eq 7, (113, 0, 0, 0, 0, .null)) := rfl
theorem s_M_clause_106 {ls : am_L} {st : List Value} {σ : am_H} {Q : Option Value → am_H → Prop} {x y : Int32} : ax k_M_clause 106 ls (.int y :: .int x :: st) σ Q = (if x = y then ax k_M_clause 113 ls st σ Q else ax k_M_clause 109 ls st σ Q) := (ru_icmp f_M_clause_106 rfl).trans (ru_i_eq _ _ _ _)
theorem f_M_clause_109 : am_cd k_M_clause 109 = some ((some .int), .iconst 1, (0, 0, 0, 0, 0, .null)) := rfl
theorem s_M_clause_109 {ls : am_L} {st : List Value} {σ : am_H} {Q : Option Value → am_H → Prop} : ax k_M_clause 109 ls st σ Q = ax k_M_clause 110 ls (.int 1 :: st) σ Q := ru_iconst f_M_clause_109 (by decide +kernel) rfl
theorem f_M_clause_110 : am_cd k_M_clause 110 = some ((some .int), .goto 4, (114, 0, 0, 0, 0, .null)) := rfl
theorem s_M_clause_110 {ls : am_L} {st : List Value} {σ : am_H} {Q : Option Value → am_H → Prop} : ax k_M_clause 110 ls st σ Q = ax k_M_clause 114 ls st σ Q := ru_goto f_M_clause_110
theorem f_M_clause_113 : am_cd k_M_clause 113 = some ((some .int), .iconst 0, (0, 0, 0, 0, 0, .null)) := rfl
theorem s_M_clause_113 {ls : am_L} {st : List Value} {σ : am_H} {Q : Option Value → am_H → Prop} : ax k_M_clause 113 ls st σ Q = ax k_M_clause 114 ls (.int 0 :: st) σ Q := ru_iconst f_M_clause_113 (by decide +kernel) rfl
theorem f_M_clause_114 : am_cd k_M_clause 114 = some ((some .int), .istore_n 2, (0, 0, 0, 0, 0, .null)) := rfl
theorem s_M_clause_114 {a0 a1 a2 : Option Value} {st : List Value} {σ : am_H} {Q : Option Value → am_H → Prop} {x : Int32} (hc : am_c2 a1 = false) : ax k_M_clause 114 [a0, a1, a2] (.int x :: st) σ Q = ax k_M_clause 115 [a0, a1, some (.int x)] st σ Q := ru_istore_n f_M_clause_114 (Nat.le_of_ble_eq_true rfl) (ru_st1 (Nat.le_of_ble_eq_true rfl) (am_clr_c2 hc rfl) rfl) rfl
theorem f_M_clause_115 : am_cd k_M_clause 115 = some ((some .int), .goto (-49), (66, 0, 0, 0, 0, .null)) := rfl
theorem s_M_clause_115 {ls : am_L} {st : List Value} {σ : am_H} {Q : Option Value → am_H → Prop} : ax k_M_clause 115 ls st σ Q = ax k_M_clause 66 ls st σ Q := ru_goto f_M_clause_115
theorem f_M_clause_118 : am_cd k_M_clause 118 = some ((some .int), .iload_n 1, (0, 0, 0, 0, 0, .null)) := rfl
theorem s_M_clause_118 {a0 a2 : Option Value} {st : List Value} {σ : am_H} {Q : Option Value → am_H → Prop} {x : Int32} : ax k_M_clause 118 [a0, some (.int x), a2] st σ Q = ax k_M_clause 119 [a0, some (.int x), a2] (.int x :: st) σ Q := ru_loc (q := (_, _)) f_M_clause_118 rfl rfl rfl
theorem f_M_clause_119 : am_cd k_M_clause 119 = some ((some .int), .bipush 6, (0, 0, 0, 0, 0, .null)) := rfl
theorem s_M_clause_119 {ls : am_L} {st : List Value} {σ : am_H} {Q : Option Value → am_H → Prop} : ax k_M_clause 119 ls st σ Q = ax k_M_clause 121 ls (.int 6 :: st) σ Q := ru_bipush f_M_clause_119 (by decide +kernel) rfl
theorem f_M_clause_121 : am_cd k_M_clause 121 = some ((some .int), .if_icmp .ne 49, (170, 0, 0, 0, 0, .null)) := rfl
theorem s_M_clause_121 {ls : am_L} {st : List Value} {σ : am_H} {Q : Option Value → am_H → Prop} {x y : Int32} : ax k_M_clause 121 ls (.int y :: .int x :: st) σ Q = (if x = y then ax k_M_clause 124 ls st σ Q else ax k_M_clause 170 ls st σ Q) := (ru_icmp f_M_clause_121 rfl).trans (ru_i_ne _ _ _ _)
theorem f_M_clause_124 : am_cd k_M_clause 124 = some ((some .int), .aload_n 0, (0, 0, 0, 0, 0, .null)) := rfl
theorem s_M_clause_124 {a1 a2 : Option Value} {st : List Value} {σ : am_H} {Q : Option Value → am_H → Prop} {x : Nat} : ax k_M_clause 124 [some (.ref x), a1, a2] st σ Q = ax k_M_clause 125 [some (.ref x), a1, a2] (.ref x :: st) σ Q := ru_loc (q := (_, _)) f_M_clause_124 rfl rfl rfl
theorem f_M_clause_125 : am_cd k_M_clause 125 = some ((some .int), .getfield 251, (11, 42, 959, 0, 0, .null)) := rfl
theorem s_M_clause_125 {ls : am_L} {st : List Value} {σ : am_H} {Q : Option Value → am_H → Prop} {a : Nat} : ax k_M_clause 125 ls (.ref a :: st) σ Q = ax_f (am_fld σ a 11 42) (fun v => ax k_M_clause 128 ls (v :: st) σ Q) := ru_getf f_M_clause_125 rfl
theorem f_M_clause_128 : am_cd k_M_clause 128 = some ((some .int), .iconst 1, (0, 0, 0, 0, 0, .null)) := rfl
theorem s_M_clause_128 {ls : am_L} {st : List Value} {σ : am_H} {Q : Option Value → am_H → Prop} : ax k_M_clause 128 ls st σ Q = ax k_M_clause 129 ls (.int 1 :: st) σ Q := ru_iconst f_M_clause_128 (by decide +kernel) rfl
theorem f_M_clause_129 : am_cd k_M_clause 129 = some ((some .int), .if_icmp .eq 5, (134, 0, 0, 0, 0, .null)) := rfl
theorem s_M_clause_129 {ls : am_L} {st : List Value} {σ : am_H} {Q : Option Value → am_H → Prop} {x y : Int32} : ax k_M_clause 129 ls (.int y :: .int x :: st) σ Q = (if x = y then ax k_M_clause 134 ls st σ Q else ax k_M_clause 132 ls st σ Q) := (ru_icmp f_M_clause_129 rfl).trans (ru_i_eq _ _ _ _)
theorem f_M_clause_132 : am_cd k_M_clause 132 = some ((some .int), .iconst 1, (0, 0, 0, 0, 0, .null)) := rfl
theorem s_M_clause_132 {ls : am_L} {st : List Value} {σ : am_H} {Q : Option Value → am_H → Prop} : ax k_M_clause 132 ls st σ Q = ax k_M_clause 133 ls (.int 1 :: st) σ Q := ru_iconst f_M_clause_132 (by decide +kernel) rfl
theorem f_M_clause_133 : am_cd k_M_clause 133 = some ((some .int), .ireturn, (0, 0, 0, 0, 0, .null)) := rfl
theorem s_M_clause_133 {ls : am_L} {σ : am_H} {Q : Option Value → am_H → Prop} {v : Int32} : ax k_M_clause 133 ls [.int v] σ Q = Q (some (.int v)) σ := ru_iretI f_M_clause_133
theorem f_M_clause_134 : am_cd k_M_clause 134 = some ((some .int), .aload_n 0, (0, 0, 0, 0, 0, .null)) := rfl
theorem s_M_clause_134 {a1 a2 : Option Value} {st : List Value} {σ : am_H} {Q : Option Value → am_H → Prop} {x : Nat} : ax k_M_clause 134 [some (.ref x), a1, a2] st σ Q = ax k_M_clause 135 [some (.ref x), a1, a2] (.ref x :: st) σ Q := ru_loc (q := (_, _)) f_M_clause_134 rfl rfl rfl
theorem f_M_clause_135 : am_cd k_M_clause 135 = some ((some .int), .getfield 257, (11, 43, 960, 0, 0, .null)) := rfl
theorem s_M_clause_135 {ls : am_L} {st : List Value} {σ : am_H} {Q : Option Value → am_H → Prop} {a : Nat} : ax k_M_clause 135 ls (.ref a :: st) σ Q = ax_f (am_fld σ a 11 43) (fun v => ax k_M_clause 138 ls (v :: st) σ Q) := ru_getf f_M_clause_135 rfl
theorem f_M_clause_138 : am_cd k_M_clause 138 = some ((some .int), .aload_n 0, (0, 0, 0, 0, 0, .null)) := rfl
theorem s_M_clause_138 {a1 a2 : Option Value} {st : List Value} {σ : am_H} {Q : Option Value → am_H → Prop} {x : Nat} : ax k_M_clause 138 [some (.ref x), a1, a2] st σ Q = ax k_M_clause 139 [some (.ref x), a1, a2] (.ref x :: st) σ Q := ru_loc (q := (_, _)) f_M_clause_138 rfl rfl rfl
theorem f_M_clause_139 : am_cd k_M_clause 139 = some ((some .int), .getfield 87, (11, 34, 951, 0, 3, .null)) := rfl
theorem s_M_clause_139 {ls : am_L} {st : List Value} {σ : am_H} {Q : Option Value → am_H → Prop} {a : Nat} : ax k_M_clause 139 ls (.ref a :: st) σ Q = ax_f (am_fld σ a 11 34) (fun v => ax k_M_clause 142 ls (v :: st) σ Q) := ru_getf f_M_clause_139 rfl
theorem f_M_clause_142 : am_cd k_M_clause 142 = some ((some .int), .bipush 120, (0, 0, 0, 0, 0, .null)) := rfl
theorem s_M_clause_142 {ls : am_L} {st : List Value} {σ : am_H} {Q : Option Value → am_H → Prop} : ax k_M_clause 142 ls st σ Q = ax k_M_clause 144 ls (.int 120 :: st) σ Q := ru_bipush f_M_clause_142 (by decide +kernel) rfl
theorem f_M_clause_144 : am_cd k_M_clause 144 = some ((some .int), .iaload, (0, 0, 0, 0, 0, .null)) := rfl
theorem s_M_clause_144 {ls : am_L} {st : List Value} {σ : am_H} {Q : Option Value → am_H → Prop} {a : Nat} {j : Int32} : ax k_M_clause 144 ls (.int j :: .ref a :: st) σ Q = ax_f (am_j σ a) (fun q => q.1 = 0 ∧ am_ix j q.2.1 ∧ ax k_M_clause 145 ls (.int (q.2.2 j.toNatClampNeg) :: st) σ Q) := rv_iald f_M_clause_144 rfl
theorem f_M_clause_145 : am_cd k_M_clause 145 = some ((some .int), .ldc 164, (0, 0, 1109, 0, 0, .int (100000))) := rfl
theorem s_M_clause_145 {ls : am_L} {st : List Value} {σ : am_H} {Q : Option Value → am_H → Prop} : ax k_M_clause 145 ls st σ Q = ax k_M_clause 147 ls (.int (100000) :: st) σ Q := ru_rd f_M_clause_145 rfl rfl rfl rfl rfl
theorem f_M_clause_147 : am_cd k_M_clause 147 = some ((some .int), .invokestatic 154, (113, 3, 1110, 0, 11, .null)) := rfl
theorem s_M_clause_147 {ls : am_L} {st : List Value} {σ : am_H} {Q : Option Value → am_H → Prop} {p0 : Int32} {p1 : Int32} {p2 : Int32} (h8 : am_s8 st) : ax k_M_clause 147 ls (.int p2 :: .int p1 :: .int p0 :: st) σ Q = ax k_M_isIn 0 [some (.int p0), some (.int p1), some (.int p2)] [] σ (ax_k k_M_clause 150 ls st Q) := ru_sta (M' := rk_M_isIn) f_M_clause_147 rfl (by decide) rfl (by simp) rfl h8 rfl rfl rfl rfl rfl
theorem f_M_clause_150 : am_cd k_M_clause 150 = some ((some .int), .ifCond .ne 5, (155, 0, 0, 0, 0, .null)) := rfl
theorem s_M_clause_150 {ls : am_L} {st : List Value} {σ : am_H} {Q : Option Value → am_H → Prop} {x : Int32} : ax k_M_clause 150 ls (.int x :: st) σ Q = (if x = 0 then ax k_M_clause 153 ls st σ Q else ax k_M_clause 155 ls st σ Q) := (ru_if f_M_clause_150 rfl).trans (ru_i_ne _ _ _ _)
theorem f_M_clause_153 : am_cd k_M_clause 153 = some ((some .int), .iconst 3, (0, 0, 0, 0, 0, .null)) := rfl
theorem s_M_clause_153 {ls : am_L} {st : List Value} {σ : am_H} {Q : Option Value → am_H → Prop} : ax k_M_clause 153 ls st σ Q = ax k_M_clause 154 ls (.int 3 :: st) σ Q := ru_iconst f_M_clause_153 (by decide +kernel) rfl
theorem f_M_clause_154 : am_cd k_M_clause 154 = some ((some .int), .ireturn, (0, 0, 0, 0, 0, .null)) := rfl
theorem s_M_clause_154 {ls : am_L} {σ : am_H} {Q : Option Value → am_H → Prop} {v : Int32} : ax k_M_clause 154 ls [.int v] σ Q = Q (some (.int v)) σ := ru_iretI f_M_clause_154
theorem f_M_clause_155 : am_cd k_M_clause 155 = some ((some .int), .aload_n 0, (0, 0, 0, 0, 0, .null)) := rfl
theorem s_M_clause_155 {a1 a2 : Option Value} {st : List Value} {σ : am_H} {Q : Option Value → am_H → Prop} {x : Nat} : ax k_M_clause 155 [some (.ref x), a1, a2] st σ Q = ax k_M_clause 156 [some (.ref x), a1, a2] (.ref x :: st) σ Q := ru_loc (q := (_, _)) f_M_clause_155 rfl rfl rfl
theorem f_M_clause_156 : am_cd k_M_clause 156 = some ((some .int), .getfield 90, (11, 35, 952, 0, 3, .null)) := rfl
theorem s_M_clause_156 {ls : am_L} {st : List Value} {σ : am_H} {Q : Option Value → am_H → Prop} {a : Nat} : ax k_M_clause 156 ls (.ref a :: st) σ Q = ax_f (am_fld σ a 11 35) (fun v => ax k_M_clause 159 ls (v :: st) σ Q) := ru_getf f_M_clause_156 rfl
theorem f_M_clause_159 : am_cd k_M_clause 159 = some ((some .int), .bipush 120, (0, 0, 0, 0, 0, .null)) := rfl
theorem s_M_clause_159 {ls : am_L} {st : List Value} {σ : am_H} {Q : Option Value → am_H → Prop} : ax k_M_clause 159 ls st σ Q = ax k_M_clause 161 ls (.int 120 :: st) σ Q := ru_bipush f_M_clause_159 (by decide +kernel) rfl
theorem f_M_clause_161 : am_cd k_M_clause 161 = some ((some .int), .aload_n 0, (0, 0, 0, 0, 0, .null)) := rfl
theorem s_M_clause_161 {a1 a2 : Option Value} {st : List Value} {σ : am_H} {Q : Option Value → am_H → Prop} {x : Nat} : ax k_M_clause 161 [some (.ref x), a1, a2] st σ Q = ax k_M_clause 162 [some (.ref x), a1, a2] (.ref x :: st) σ Q := ru_loc (q := (_, _)) f_M_clause_161 rfl rfl rfl
theorem f_M_clause_162 : am_cd k_M_clause 162 = some ((some .int), .getfield 257, (11, 43, 960, 0, 0, .null)) := rfl
theorem s_M_clause_162 {ls : am_L} {st : List Value} {σ : am_H} {Q : Option Value → am_H → Prop} {a : Nat} : ax k_M_clause 162 ls (.ref a :: st) σ Q = ax_f (am_fld σ a 11 43) (fun v => ax k_M_clause 165 ls (v :: st) σ Q) := ru_getf f_M_clause_162 rfl
theorem f_M_clause_165 : am_cd k_M_clause 165 = some ((some .int), .iastore, (0, 0, 0, 0, 0, .null)) := rfl
theorem s_M_clause_165 {ls : am_L} {st : List Value} {σ : am_H} {Q : Option Value → am_H → Prop} {a : Nat} {j x : Int32} : ax k_M_clause 165 ls (.int x :: .int j :: .ref a :: st) σ Q = ax_f (am_j σ a) (fun q => q.1 = 0 ∧ am_ix j q.2.1 ∧ a < am_top ∧ ax k_M_clause 166 ls st (am_set σ a (am_ia 0 q.2.1 (upd q.2.2 j.toNatClampNeg x))) Q) := rv_iast f_M_clause_165 rfl
theorem f_M_clause_166 : am_cd k_M_clause 166 = some ((some .int), .aload_n 0, (0, 0, 0, 0, 0, .null)) := rfl
theorem s_M_clause_166 {a1 a2 : Option Value} {st : List Value} {σ : am_H} {Q : Option Value → am_H → Prop} {x : Nat} : ax k_M_clause 166 [some (.ref x), a1, a2] st σ Q = ax k_M_clause 167 [some (.ref x), a1, a2] (.ref x :: st) σ Q := ru_loc (q := (_, _)) f_M_clause_166 rfl rfl rfl
theorem f_M_clause_167 : am_cd k_M_clause 167 = some ((some .int), .invokevirtual 267, (151, 0, 1247, 0, 11, .null)) := rfl
theorem s_M_clause_167 {ls : am_L} {st : List Value} {σ : am_H} {Q : Option Value → am_H → Prop} {b : Nat} (hi : am_is σ b 11) (h8 : am_s8 st) : ax k_M_clause 167 ls (.ref b :: st) σ Q = ax k_M_nextToken 0 [some (.ref b), none, none] [] σ (ax_k k_M_clause 170 ls st Q) := ru_vir (M' := rk_M_nextToken) f_M_clause_167 rfl rfl rfl rfl hi h8 rfl rfl rfl rfl rfl
theorem f_M_clause_170 : am_cd k_M_clause 170 = some ((some .int), .aload_n 0, (0, 0, 0, 0, 0, .null)) := rfl
theorem s_M_clause_170 {a1 a2 : Option Value} {st : List Value} {σ : am_H} {Q : Option Value → am_H → Prop} {x : Nat} : ax k_M_clause 170 [some (.ref x), a1, a2] st σ Q = ax k_M_clause 171 [some (.ref x), a1, a2] (.ref x :: st) σ Q := ru_loc (q := (_, _)) f_M_clause_170 rfl rfl rfl
theorem f_M_clause_171 : am_cd k_M_clause 171 = some ((some .int), .getfield 251, (11, 42, 959, 0, 0, .null)) := rfl
theorem s_M_clause_171 {ls : am_L} {st : List Value} {σ : am_H} {Q : Option Value → am_H → Prop} {a : Nat} : ax k_M_clause 171 ls (.ref a :: st) σ Q = ax_f (am_fld σ a 11 42) (fun v => ax k_M_clause 174 ls (v :: st) σ Q) := ru_getf f_M_clause_171 rfl
theorem f_M_clause_174 : am_cd k_M_clause 174 = some ((some .int), .iconst 2, (0, 0, 0, 0, 0, .null)) := rfl
theorem s_M_clause_174 {ls : am_L} {st : List Value} {σ : am_H} {Q : Option Value → am_H → Prop} : ax k_M_clause 174 ls st σ Q = ax k_M_clause 175 ls (.int 2 :: st) σ Q := ru_iconst f_M_clause_174 (by decide +kernel) rfl
theorem f_M_clause_175 : am_cd k_M_clause 175 = some ((some .int), .if_icmp .eq 5, (180, 0, 0, 0, 0, .null)) := rfl
theorem s_M_clause_175 {ls : am_L} {st : List Value} {σ : am_H} {Q : Option Value → am_H → Prop} {x y : Int32} : ax k_M_clause 175 ls (.int y :: .int x :: st) σ Q = (if x = y then ax k_M_clause 180 ls st σ Q else ax k_M_clause 178 ls st σ Q) := (ru_icmp f_M_clause_175 rfl).trans (ru_i_eq _ _ _ _)
theorem f_M_clause_178 : am_cd k_M_clause 178 = some ((some .int), .iconst 1, (0, 0, 0, 0, 0, .null)) := rfl
theorem s_M_clause_178 {ls : am_L} {st : List Value} {σ : am_H} {Q : Option Value → am_H → Prop} : ax k_M_clause 178 ls st σ Q = ax k_M_clause 179 ls (.int 1 :: st) σ Q := ru_iconst f_M_clause_178 (by decide +kernel) rfl
theorem f_M_clause_179 : am_cd k_M_clause 179 = some ((some .int), .ireturn, (0, 0, 0, 0, 0, .null)) := rfl
theorem s_M_clause_179 {ls : am_L} {σ : am_H} {Q : Option Value → am_H → Prop} {v : Int32} : ax k_M_clause 179 ls [.int v] σ Q = Q (some (.int v)) σ := ru_iretI f_M_clause_179
theorem f_M_clause_180 : am_cd k_M_clause 180 = some ((some .int), .aload_n 0, (0, 0, 0, 0, 0, .null)) := rfl
theorem s_M_clause_180 {a1 a2 : Option Value} {st : List Value} {σ : am_H} {Q : Option Value → am_H → Prop} {x : Nat} : ax k_M_clause 180 [some (.ref x), a1, a2] st σ Q = ax k_M_clause 181 [some (.ref x), a1, a2] (.ref x :: st) σ Q := ru_loc (q := (_, _)) f_M_clause_180 rfl rfl rfl
theorem f_M_clause_181 : am_cd k_M_clause 181 = some ((some .int), .invokevirtual 267, (151, 0, 1247, 0, 11, .null)) := rfl
theorem s_M_clause_181 {ls : am_L} {st : List Value} {σ : am_H} {Q : Option Value → am_H → Prop} {b : Nat} (hi : am_is σ b 11) (h8 : am_s8 st) : ax k_M_clause 181 ls (.ref b :: st) σ Q = ax k_M_nextToken 0 [some (.ref b), none, none] [] σ (ax_k k_M_clause 184 ls st Q) := ru_vir (M' := rk_M_nextToken) f_M_clause_181 rfl rfl rfl rfl hi h8 rfl rfl rfl rfl rfl
theorem f_M_clause_184 : am_cd k_M_clause 184 = some ((some .int), .iconst 0, (0, 0, 0, 0, 0, .null)) := rfl
theorem s_M_clause_184 {ls : am_L} {st : List Value} {σ : am_H} {Q : Option Value → am_H → Prop} : ax k_M_clause 184 ls st σ Q = ax k_M_clause 185 ls (.int 0 :: st) σ Q := ru_iconst f_M_clause_184 (by decide +kernel) rfl
theorem f_M_clause_185 : am_cd k_M_clause 185 = some ((some .int), .ireturn, (0, 0, 0, 0, 0, .null)) := rfl
theorem s_M_clause_185 {ls : am_L} {σ : am_H} {Q : Option Value → am_H → Prop} {v : Int32} : ax k_M_clause 185 ls [.int v] σ Q = Q (some (.int v)) σ := ru_iretI f_M_clause_185
theorem f_M_read_0 : am_cd k_M_read 0 = some ((some .int), .aload_n 0, (0, 0, 0, 0, 0, .null)) := rfl
theorem s_M_read_0 {a1 : Option Value} {st : List Value} {σ : am_H} {Q : Option Value → am_H → Prop} {x : Nat} : ax k_M_read 0 [some (.ref x), a1] st σ Q = ax k_M_read 1 [some (.ref x), a1] (.ref x :: st) σ Q := ru_loc (q := (_, _)) f_M_read_0 rfl rfl rfl
theorem f_M_read_1 : am_cd k_M_read 1 = some ((some .int), .getfield 78, (11, 31, 948, 0, 3, .null)) := rfl
theorem s_M_read_1 {ls : am_L} {st : List Value} {σ : am_H} {Q : Option Value → am_H → Prop} {a : Nat} : ax k_M_read 1 ls (.ref a :: st) σ Q = ax_f (am_fld σ a 11 31) (fun v => ax k_M_read 4 ls (v :: st) σ Q) := ru_getf f_M_read_1 rfl
theorem f_M_read_4 : am_cd k_M_read 4 = some ((some .int), .bipush 120, (0, 0, 0, 0, 0, .null)) := rfl
theorem s_M_read_4 {ls : am_L} {st : List Value} {σ : am_H} {Q : Option Value → am_H → Prop} : ax k_M_read 4 ls st σ Q = ax k_M_read 6 ls (.int 120 :: st) σ Q := ru_bipush f_M_read_4 (by decide +kernel) rfl
theorem f_M_read_6 : am_cd k_M_read 6 = some ((some .int), .iconst 0, (0, 0, 0, 0, 0, .null)) := rfl
theorem s_M_read_6 {ls : am_L} {st : List Value} {σ : am_H} {Q : Option Value → am_H → Prop} : ax k_M_read 6 ls st σ Q = ax k_M_read 7 ls (.int 0 :: st) σ Q := ru_iconst f_M_read_6 (by decide +kernel) rfl
theorem f_M_read_7 : am_cd k_M_read 7 = some ((some .int), .iastore, (0, 0, 0, 0, 0, .null)) := rfl
theorem s_M_read_7 {ls : am_L} {st : List Value} {σ : am_H} {Q : Option Value → am_H → Prop} {a : Nat} {j x : Int32} : ax k_M_read 7 ls (.int x :: .int j :: .ref a :: st) σ Q = ax_f (am_j σ a) (fun q => q.1 = 0 ∧ am_ix j q.2.1 ∧ a < am_top ∧ ax k_M_read 8 ls st (am_set σ a (am_ia 0 q.2.1 (upd q.2.2 j.toNatClampNeg x))) Q) := rv_iast f_M_read_7 rfl
theorem f_M_read_8 : am_cd k_M_read 8 = some ((some .int), .aload_n 0, (0, 0, 0, 0, 0, .null)) := rfl
theorem s_M_read_8 {a1 : Option Value} {st : List Value} {σ : am_H} {Q : Option Value → am_H → Prop} {x : Nat} : ax k_M_read 8 [some (.ref x), a1] st σ Q = ax k_M_read 9 [some (.ref x), a1] (.ref x :: st) σ Q := ru_loc (q := (_, _)) f_M_read_8 rfl rfl rfl
theorem f_M_read_9 : am_cd k_M_read 9 = some ((some .int), .getfield 81, (11, 32, 949, 0, 3, .null)) := rfl
theorem s_M_read_9 {ls : am_L} {st : List Value} {σ : am_H} {Q : Option Value → am_H → Prop} {a : Nat} : ax k_M_read 9 ls (.ref a :: st) σ Q = ax_f (am_fld σ a 11 32) (fun v => ax k_M_read 12 ls (v :: st) σ Q) := ru_getf f_M_read_9 rfl
theorem f_M_read_12 : am_cd k_M_read 12 = some ((some .int), .bipush 120, (0, 0, 0, 0, 0, .null)) := rfl
theorem s_M_read_12 {ls : am_L} {st : List Value} {σ : am_H} {Q : Option Value → am_H → Prop} : ax k_M_read 12 ls st σ Q = ax k_M_read 14 ls (.int 120 :: st) σ Q := ru_bipush f_M_read_12 (by decide +kernel) rfl
theorem f_M_read_14 : am_cd k_M_read 14 = some ((some .int), .iconst 0, (0, 0, 0, 0, 0, .null)) := rfl
theorem s_M_read_14 {ls : am_L} {st : List Value} {σ : am_H} {Q : Option Value → am_H → Prop} : ax k_M_read 14 ls st σ Q = ax k_M_read 15 ls (.int 0 :: st) σ Q := ru_iconst f_M_read_14 (by decide +kernel) rfl
theorem f_M_read_15 : am_cd k_M_read 15 = some ((some .int), .iastore, (0, 0, 0, 0, 0, .null)) := rfl
theorem s_M_read_15 {ls : am_L} {st : List Value} {σ : am_H} {Q : Option Value → am_H → Prop} {a : Nat} {j x : Int32} : ax k_M_read 15 ls (.int x :: .int j :: .ref a :: st) σ Q = ax_f (am_j σ a) (fun q => q.1 = 0 ∧ am_ix j q.2.1 ∧ a < am_top ∧ ax k_M_read 16 ls st (am_set σ a (am_ia 0 q.2.1 (upd q.2.2 j.toNatClampNeg x))) Q) := rv_iast f_M_read_15 rfl
theorem f_M_read_16 : am_cd k_M_read 16 = some ((some .int), .aload_n 0, (0, 0, 0, 0, 0, .null)) := rfl
theorem s_M_read_16 {a1 : Option Value} {st : List Value} {σ : am_H} {Q : Option Value → am_H → Prop} {x : Nat} : ax k_M_read 16 [some (.ref x), a1] st σ Q = ax k_M_read 17 [some (.ref x), a1] (.ref x :: st) σ Q := ru_loc (q := (_, _)) f_M_read_16 rfl rfl rfl
theorem f_M_read_17 : am_cd k_M_read 17 = some ((some .int), .getfield 84, (11, 33, 950, 0, 3, .null)) := rfl
theorem s_M_read_17 {ls : am_L} {st : List Value} {σ : am_H} {Q : Option Value → am_H → Prop} {a : Nat} : ax k_M_read 17 ls (.ref a :: st) σ Q = ax_f (am_fld σ a 11 33) (fun v => ax k_M_read 20 ls (v :: st) σ Q) := ru_getf f_M_read_17 rfl
theorem f_M_read_20 : am_cd k_M_read 20 = some ((some .int), .bipush 120, (0, 0, 0, 0, 0, .null)) := rfl
theorem s_M_read_20 {ls : am_L} {st : List Value} {σ : am_H} {Q : Option Value → am_H → Prop} : ax k_M_read 20 ls st σ Q = ax k_M_read 22 ls (.int 120 :: st) σ Q := ru_bipush f_M_read_20 (by decide +kernel) rfl
theorem f_M_read_22 : am_cd k_M_read 22 = some ((some .int), .iconst 0, (0, 0, 0, 0, 0, .null)) := rfl
theorem s_M_read_22 {ls : am_L} {st : List Value} {σ : am_H} {Q : Option Value → am_H → Prop} : ax k_M_read 22 ls st σ Q = ax k_M_read 23 ls (.int 0 :: st) σ Q := ru_iconst f_M_read_22 (by decide +kernel) rfl
theorem f_M_read_23 : am_cd k_M_read 23 = some ((some .int), .iastore, (0, 0, 0, 0, 0, .null)) := rfl
theorem s_M_read_23 {ls : am_L} {st : List Value} {σ : am_H} {Q : Option Value → am_H → Prop} {a : Nat} {j x : Int32} : ax k_M_read 23 ls (.int x :: .int j :: .ref a :: st) σ Q = ax_f (am_j σ a) (fun q => q.1 = 0 ∧ am_ix j q.2.1 ∧ a < am_top ∧ ax k_M_read 24 ls st (am_set σ a (am_ia 0 q.2.1 (upd q.2.2 j.toNatClampNeg x))) Q) := rv_iast f_M_read_23 rfl
theorem f_M_read_24 : am_cd k_M_read 24 = some ((some .int), .aload_n 0, (0, 0, 0, 0, 0, .null)) := rfl
theorem s_M_read_24 {a1 : Option Value} {st : List Value} {σ : am_H} {Q : Option Value → am_H → Prop} {x : Nat} : ax k_M_read 24 [some (.ref x), a1] st σ Q = ax k_M_read 25 [some (.ref x), a1] (.ref x :: st) σ Q := ru_loc (q := (_, _)) f_M_read_24 rfl rfl rfl
theorem f_M_read_25 : am_cd k_M_read 25 = some ((some .int), .getfield 96, (11, 37, 954, 0, 3, .null)) := rfl
theorem s_M_read_25 {ls : am_L} {st : List Value} {σ : am_H} {Q : Option Value → am_H → Prop} {a : Nat} : ax k_M_read 25 ls (.ref a :: st) σ Q = ax_f (am_fld σ a 11 37) (fun v => ax k_M_read 28 ls (v :: st) σ Q) := ru_getf f_M_read_25 rfl
theorem f_M_read_28 : am_cd k_M_read 28 = some ((some .int), .bipush 120, (0, 0, 0, 0, 0, .null)) := rfl
theorem s_M_read_28 {ls : am_L} {st : List Value} {σ : am_H} {Q : Option Value → am_H → Prop} : ax k_M_read 28 ls st σ Q = ax k_M_read 30 ls (.int 120 :: st) σ Q := ru_bipush f_M_read_28 (by decide +kernel) rfl
theorem f_M_read_30 : am_cd k_M_read 30 = some ((some .int), .lconst 0, (0, 0, 0, 0, 0, .null)) := rfl
theorem s_M_read_30 {ls : am_L} {st : List Value} {σ : am_H} {Q : Option Value → am_H → Prop} : ax k_M_read 30 ls st σ Q = ax k_M_read 31 ls (.long 0 :: st) σ Q := ru_lconst f_M_read_30 (by decide +kernel) rfl
theorem f_M_read_31 : am_cd k_M_read 31 = some ((some .int), .lastore, (0, 0, 0, 0, 0, .null)) := rfl
theorem s_M_read_31 {ls : am_L} {st : List Value} {σ : am_H} {Q : Option Value → am_H → Prop} {a : Nat} {j : Int32} {x : Int64} : ax k_M_read 31 ls (.long x :: .int j :: .ref a :: st) σ Q = ax_f (am_lv σ a) (fun q => am_ix j q.1 ∧ a < am_top ∧ ax k_M_read 32 ls st (am_set σ a (am_la q.1 (vp_updL q.2 j.toNatClampNeg x))) Q) := ru_last f_M_read_31 rfl
theorem f_M_read_32 : am_cd k_M_read 32 = some ((some .int), .aload_n 0, (0, 0, 0, 0, 0, .null)) := rfl
theorem s_M_read_32 {a1 : Option Value} {st : List Value} {σ : am_H} {Q : Option Value → am_H → Prop} {x : Nat} : ax k_M_read 32 [some (.ref x), a1] st σ Q = ax k_M_read 33 [some (.ref x), a1] (.ref x :: st) σ Q := ru_loc (q := (_, _)) f_M_read_32 rfl rfl rfl
theorem f_M_read_33 : am_cd k_M_read 33 = some ((some .int), .iconst 0, (0, 0, 0, 0, 0, .null)) := rfl
theorem s_M_read_33 {ls : am_L} {st : List Value} {σ : am_H} {Q : Option Value → am_H → Prop} : ax k_M_read 33 ls st σ Q = ax k_M_read 34 ls (.int 0 :: st) σ Q := ru_iconst f_M_read_33 (by decide +kernel) rfl
theorem f_M_read_34 : am_cd k_M_read 34 = some ((some .int), .putfield 242, (11, 40, 957, 0, 0, .null)) := rfl
theorem s_M_read_34 {ls : am_L} {st : List Value} {σ : am_H} {Q : Option Value → am_H → Prop} {a : Nat} {v : Value} : ax k_M_read 34 ls (v :: .ref a :: st) σ Q = ax_f (am_fld σ a 11 40) (fun _ => a < am_top ∧ am_okv 0 v = true ∧ ax k_M_read 37 ls st (am_put σ a 40 v) Q) := ru_putf f_M_read_34 rfl
theorem f_M_read_37 : am_cd k_M_read 37 = some ((some .int), .aload_n 0, (0, 0, 0, 0, 0, .null)) := rfl
theorem s_M_read_37 {a1 : Option Value} {st : List Value} {σ : am_H} {Q : Option Value → am_H → Prop} {x : Nat} : ax k_M_read 37 [some (.ref x), a1] st σ Q = ax k_M_read 38 [some (.ref x), a1] (.ref x :: st) σ Q := ru_loc (q := (_, _)) f_M_read_37 rfl rfl rfl
theorem f_M_read_38 : am_cd k_M_read 38 = some ((some .int), .invokevirtual 267, (151, 0, 1247, 0, 11, .null)) := rfl
theorem s_M_read_38 {ls : am_L} {st : List Value} {σ : am_H} {Q : Option Value → am_H → Prop} {b : Nat} (hi : am_is σ b 11) (h8 : am_s8 st) : ax k_M_read 38 ls (.ref b :: st) σ Q = ax k_M_nextToken 0 [some (.ref b), none, none] [] σ (ax_k k_M_read 41 ls st Q) := ru_vir (M' := rk_M_nextToken) f_M_read_38 rfl rfl rfl rfl hi h8 rfl rfl rfl rfl rfl
theorem f_M_read_41 : am_cd k_M_read 41 = some ((some .int), .aload_n 0, (0, 0, 0, 0, 0, .null)) := rfl
theorem s_M_read_41 {a1 : Option Value} {st : List Value} {σ : am_H} {Q : Option Value → am_H → Prop} {x : Nat} : ax k_M_read 41 [some (.ref x), a1] st σ Q = ax k_M_read 42 [some (.ref x), a1] (.ref x :: st) σ Q := ru_loc (q := (_, _)) f_M_read_41 rfl rfl rfl
theorem f_M_read_42 : am_cd k_M_read 42 = some ((some .int), .getfield 251, (11, 42, 959, 0, 0, .null)) := rfl
theorem s_M_read_42 {ls : am_L} {st : List Value} {σ : am_H} {Q : Option Value → am_H → Prop} {a : Nat} : ax k_M_read 42 ls (.ref a :: st) σ Q = ax_f (am_fld σ a 11 42) (fun v => ax k_M_read 45 ls (v :: st) σ Q) := ru_getf f_M_read_42 rfl
theorem f_M_read_45 : am_cd k_M_read 45 = some ((some .int), .ifCond .eq 17, (62, 0, 0, 0, 0, .null)) := rfl
theorem s_M_read_45 {ls : am_L} {st : List Value} {σ : am_H} {Q : Option Value → am_H → Prop} {x : Int32} : ax k_M_read 45 ls (.int x :: st) σ Q = (if x = 0 then ax k_M_read 62 ls st σ Q else ax k_M_read 48 ls st σ Q) := (ru_if f_M_read_45 rfl).trans (ru_i_eq _ _ _ _)
theorem f_M_read_48 : am_cd k_M_read 48 = some ((some .int), .aload_n 0, (0, 0, 0, 0, 0, .null)) := rfl
theorem s_M_read_48 {a1 : Option Value} {st : List Value} {σ : am_H} {Q : Option Value → am_H → Prop} {x : Nat} : ax k_M_read 48 [some (.ref x), a1] st σ Q = ax k_M_read 49 [some (.ref x), a1] (.ref x :: st) σ Q := ru_loc (q := (_, _)) f_M_read_48 rfl rfl rfl
theorem f_M_read_49 : am_cd k_M_read 49 = some ((some .int), .invokevirtual 276, (154, 0, 1268, 0, 11, .null)) := rfl
theorem s_M_read_49 {ls : am_L} {st : List Value} {σ : am_H} {Q : Option Value → am_H → Prop} {b : Nat} (hi : am_is σ b 11) (h8 : am_s8 st) : ax k_M_read 49 ls (.ref b :: st) σ Q = ax k_M_clause 0 [some (.ref b), none, none] [] σ (ax_k k_M_read 52 ls st Q) := ru_vir (M' := rk_M_clause) f_M_read_49 rfl rfl rfl rfl hi h8 rfl rfl rfl rfl rfl
theorem f_M_read_52 : am_cd k_M_read 52 = some ((some .int), .istore_n 1, (0, 0, 0, 0, 0, .null)) := rfl
theorem s_M_read_52 {a0 a1 : Option Value} {st : List Value} {σ : am_H} {Q : Option Value → am_H → Prop} {x : Int32} (hc : am_c2 a0 = false) : ax k_M_read 52 [a0, a1] (.int x :: st) σ Q = ax k_M_read 53 [a0, some (.int x)] st σ Q := ru_istore_n f_M_read_52 (Nat.le_of_ble_eq_true rfl) (ru_st1 (Nat.le_of_ble_eq_true rfl) (am_clr_c2 hc rfl) rfl) rfl
theorem f_M_read_53 : am_cd k_M_read 53 = some ((some .int), .iload_n 1, (0, 0, 0, 0, 0, .null)) := rfl
theorem s_M_read_53 {a0 : Option Value} {st : List Value} {σ : am_H} {Q : Option Value → am_H → Prop} {x : Int32} : ax k_M_read 53 [a0, some (.int x)] st σ Q = ax k_M_read 54 [a0, some (.int x)] (.int x :: st) σ Q := ru_loc (q := (_, _)) f_M_read_53 rfl rfl rfl
theorem f_M_read_54 : am_cd k_M_read 54 = some ((some .int), .ifCond .eq 5, (59, 0, 0, 0, 0, .null)) := rfl
theorem s_M_read_54 {ls : am_L} {st : List Value} {σ : am_H} {Q : Option Value → am_H → Prop} {x : Int32} : ax k_M_read 54 ls (.int x :: st) σ Q = (if x = 0 then ax k_M_read 59 ls st σ Q else ax k_M_read 57 ls st σ Q) := (ru_if f_M_read_54 rfl).trans (ru_i_eq _ _ _ _)
theorem f_M_read_57 : am_cd k_M_read 57 = some ((some .int), .iload_n 1, (0, 0, 0, 0, 0, .null)) := rfl
theorem s_M_read_57 {a0 : Option Value} {st : List Value} {σ : am_H} {Q : Option Value → am_H → Prop} {x : Int32} : ax k_M_read 57 [a0, some (.int x)] st σ Q = ax k_M_read 58 [a0, some (.int x)] (.int x :: st) σ Q := ru_loc (q := (_, _)) f_M_read_57 rfl rfl rfl
theorem f_M_read_58 : am_cd k_M_read 58 = some ((some .int), .ireturn, (0, 0, 0, 0, 0, .null)) := rfl
theorem s_M_read_58 {ls : am_L} {σ : am_H} {Q : Option Value → am_H → Prop} {v : Int32} : ax k_M_read 58 ls [.int v] σ Q = Q (some (.int v)) σ := ru_iretI f_M_read_58
theorem f_M_read_59 : am_cd k_M_read 59 = some ((some .int), .goto (-18), (41, 0, 0, 0, 0, .null)) := rfl
theorem s_M_read_59 {ls : am_L} {st : List Value} {σ : am_H} {Q : Option Value → am_H → Prop} : ax k_M_read 59 ls st σ Q = ax k_M_read 41 ls st σ Q := ru_goto f_M_read_59
theorem f_M_read_62 : am_cd k_M_read 62 = some ((some .int), .iconst 0, (0, 0, 0, 0, 0, .null)) := rfl
theorem s_M_read_62 {ls : am_L} {st : List Value} {σ : am_H} {Q : Option Value → am_H → Prop} : ax k_M_read 62 ls st σ Q = ax k_M_read 63 ls (.int 0 :: st) σ Q := ru_iconst f_M_read_62 (by decide +kernel) rfl
theorem f_M_read_63 : am_cd k_M_read 63 = some ((some .int), .ireturn, (0, 0, 0, 0, 0, .null)) := rfl
theorem s_M_read_63 {ls : am_L} {σ : am_H} {Q : Option Value → am_H → Prop} {v : Int32} : ax k_M_read 63 ls [.int v] σ Q = Q (some (.int v)) σ := ru_iretI f_M_read_63
theorem f_M_text_0 : am_cd k_M_text 0 = some ((some .int), .aload_n 0, (0, 0, 0, 0, 0, .null)) := rfl
theorem s_M_text_0 {a1 a2 : Option Value} {st : List Value} {σ : am_H} {Q : Option Value → am_H → Prop} {x : Nat} : ax k_M_text 0 [some (.ref x), a1, a2] st σ Q = ax k_M_text 1 [some (.ref x), a1, a2] (.ref x :: st) σ Q := ru_loc (q := (_, _)) f_M_text_0 rfl rfl rfl
theorem f_M_text_1 : am_cd k_M_text 1 = some ((some .int), .iload_n 1, (0, 0, 0, 0, 0, .null)) := rfl
theorem s_M_text_1 {a0 a2 : Option Value} {st : List Value} {σ : am_H} {Q : Option Value → am_H → Prop} {x : Int32} : ax k_M_text 1 [a0, some (.int x), a2] st σ Q = ax k_M_text 2 [a0, some (.int x), a2] (.int x :: st) σ Q := ru_loc (q := (_, _)) f_M_text_1 rfl rfl rfl
theorem f_M_text_2 : am_cd k_M_text 2 = some ((some .int), .invokevirtual 195, (115, 1, 1155, 0, 11, .null)) := rfl
theorem s_M_text_2 {ls : am_L} {st : List Value} {σ : am_H} {Q : Option Value → am_H → Prop} {p0 : Int32} {b : Nat} (hi : am_is σ b 11) (h8 : am_s8 st) : ax k_M_text 2 ls (.int p0 :: .ref b :: st) σ Q = ax k_M_isPicture 0 [some (.ref b), some (.int p0)] [] σ (ax_k k_M_text 5 ls st Q) := ru_vir (M' := rk_M_isPicture) f_M_text_2 rfl rfl rfl rfl hi h8 rfl rfl rfl rfl rfl
theorem f_M_text_5 : am_cd k_M_text 5 = some ((some .int), .ifCond .eq 13, (18, 0, 0, 0, 0, .null)) := rfl
theorem s_M_text_5 {ls : am_L} {st : List Value} {σ : am_H} {Q : Option Value → am_H → Prop} {x : Int32} : ax k_M_text 5 ls (.int x :: st) σ Q = (if x = 0 then ax k_M_text 18 ls st σ Q else ax k_M_text 8 ls st σ Q) := (ru_if f_M_text_5 rfl).trans (ru_i_eq _ _ _ _)
theorem f_M_text_8 : am_cd k_M_text 8 = some ((some .int), .aload_n 0, (0, 0, 0, 0, 0, .null)) := rfl
theorem s_M_text_8 {a1 a2 : Option Value} {st : List Value} {σ : am_H} {Q : Option Value → am_H → Prop} {x : Nat} : ax k_M_text 8 [some (.ref x), a1, a2] st σ Q = ax k_M_text 9 [some (.ref x), a1, a2] (.ref x :: st) σ Q := ru_loc (q := (_, _)) f_M_text_8 rfl rfl rfl
theorem f_M_text_9 : am_cd k_M_text 9 = some ((some .int), .getfield 75, (11, 30, 947, 0, 3, .null)) := rfl
theorem s_M_text_9 {ls : am_L} {st : List Value} {σ : am_H} {Q : Option Value → am_H → Prop} {a : Nat} : ax k_M_text 9 ls (.ref a :: st) σ Q = ax_f (am_fld σ a 11 30) (fun v => ax k_M_text 12 ls (v :: st) σ Q) := ru_getf f_M_text_9 rfl
theorem f_M_text_12 : am_cd k_M_text 12 = some ((some .int), .iload_n 1, (0, 0, 0, 0, 0, .null)) := rfl
theorem s_M_text_12 {a0 a2 : Option Value} {st : List Value} {σ : am_H} {Q : Option Value → am_H → Prop} {x : Int32} : ax k_M_text 12 [a0, some (.int x), a2] st σ Q = ax k_M_text 13 [a0, some (.int x), a2] (.int x :: st) σ Q := ru_loc (q := (_, _)) f_M_text_12 rfl rfl rfl
theorem f_M_text_13 : am_cd k_M_text 13 = some ((some .int), .iaload, (0, 0, 0, 0, 0, .null)) := rfl
theorem s_M_text_13 {ls : am_L} {st : List Value} {σ : am_H} {Q : Option Value → am_H → Prop} {a : Nat} {j : Int32} : ax k_M_text 13 ls (.int j :: .ref a :: st) σ Q = ax_f (am_j σ a) (fun q => q.1 = 0 ∧ am_ix j q.2.1 ∧ ax k_M_text 14 ls (.int (q.2.2 j.toNatClampNeg) :: st) σ Q) := rv_iald f_M_text_13 rfl
theorem f_M_text_14 : am_cd k_M_text 14 = some ((some .int), .iconst 3, (0, 0, 0, 0, 0, .null)) := rfl
theorem s_M_text_14 {ls : am_L} {st : List Value} {σ : am_H} {Q : Option Value → am_H → Prop} : ax k_M_text 14 ls st σ Q = ax k_M_text 15 ls (.int 3 :: st) σ Q := ru_iconst f_M_text_14 (by decide +kernel) rfl
theorem f_M_text_15 : am_cd k_M_text 15 = some ((some .int), .if_icmp .ne 5, (20, 0, 0, 0, 0, .null)) := rfl
theorem s_M_text_15 {ls : am_L} {st : List Value} {σ : am_H} {Q : Option Value → am_H → Prop} {x y : Int32} : ax k_M_text 15 ls (.int y :: .int x :: st) σ Q = (if x = y then ax k_M_text 18 ls st σ Q else ax k_M_text 20 ls st σ Q) := (ru_icmp f_M_text_15 rfl).trans (ru_i_ne _ _ _ _)
theorem f_M_text_18 : am_cd k_M_text 18 = some ((some .int), .iconst (-1), (0, 0, 0, 0, 0, .null)) := rfl
theorem s_M_text_18 {ls : am_L} {st : List Value} {σ : am_H} {Q : Option Value → am_H → Prop} : ax k_M_text 18 ls st σ Q = ax k_M_text 19 ls (.int (-1) :: st) σ Q := ru_iconst f_M_text_18 (by decide +kernel) rfl
theorem f_M_text_19 : am_cd k_M_text 19 = some ((some .int), .ireturn, (0, 0, 0, 0, 0, .null)) := rfl
theorem s_M_text_19 {ls : am_L} {σ : am_H} {Q : Option Value → am_H → Prop} {v : Int32} : ax k_M_text 19 ls [.int v] σ Q = Q (some (.int v)) σ := ru_iretI f_M_text_19
theorem f_M_text_20 : am_cd k_M_text 20 = some ((some .int), .aload_n 0, (0, 0, 0, 0, 0, .null)) := rfl
theorem s_M_text_20 {a1 a2 : Option Value} {st : List Value} {σ : am_H} {Q : Option Value → am_H → Prop} {x : Nat} : ax k_M_text 20 [some (.ref x), a1, a2] st σ Q = ax k_M_text 21 [some (.ref x), a1, a2] (.ref x :: st) σ Q := ru_loc (q := (_, _)) f_M_text_20 rfl rfl rfl
theorem f_M_text_21 : am_cd k_M_text 21 = some ((some .int), .aload_n 0, (0, 0, 0, 0, 0, .null)) := rfl
theorem s_M_text_21 {a1 a2 : Option Value} {st : List Value} {σ : am_H} {Q : Option Value → am_H → Prop} {x : Nat} : ax k_M_text 21 [some (.ref x), a1, a2] st σ Q = ax k_M_text 22 [some (.ref x), a1, a2] (.ref x :: st) σ Q := ru_loc (q := (_, _)) f_M_text_21 rfl rfl rfl
theorem f_M_text_22 : am_cd k_M_text 22 = some ((some .int), .invokevirtual 280, (155, 0, 1243, 0, 11, .null)) := rfl
theorem s_M_text_22 {ls : am_L} {st : List Value} {σ : am_H} {Q : Option Value → am_H → Prop} {b : Nat} (hi : am_is σ b 11) (h8 : am_s8 st) : ax k_M_text 22 ls (.ref b :: st) σ Q = ax k_M_read 0 [some (.ref b), none] [] σ (ax_k k_M_text 25 ls st Q) := ru_vir (M' := rk_M_read) f_M_text_22 rfl rfl rfl rfl hi h8 rfl rfl rfl rfl rfl
theorem f_M_text_25 : am_cd k_M_text 25 = some ((some .int), .putfield 100, (11, 38, 955, 0, 0, .null)) := rfl
theorem s_M_text_25 {ls : am_L} {st : List Value} {σ : am_H} {Q : Option Value → am_H → Prop} {a : Nat} {v : Value} : ax k_M_text 25 ls (v :: .ref a :: st) σ Q = ax_f (am_fld σ a 11 38) (fun _ => a < am_top ∧ am_okv 0 v = true ∧ ax k_M_text 28 ls st (am_put σ a 38 v) Q) := ru_putf f_M_text_25 rfl
theorem f_M_text_28 : am_cd k_M_text 28 = some ((some .int), .aload_n 0, (0, 0, 0, 0, 0, .null)) := rfl
theorem s_M_text_28 {a1 a2 : Option Value} {st : List Value} {σ : am_H} {Q : Option Value → am_H → Prop} {x : Nat} : ax k_M_text 28 [some (.ref x), a1, a2] st σ Q = ax k_M_text 29 [some (.ref x), a1, a2] (.ref x :: st) σ Q := ru_loc (q := (_, _)) f_M_text_28 rfl rfl rfl
theorem f_M_text_29 : am_cd k_M_text 29 = some ((some .int), .aload_n 0, (0, 0, 0, 0, 0, .null)) := rfl
theorem s_M_text_29 {a1 a2 : Option Value} {st : List Value} {σ : am_H} {Q : Option Value → am_H → Prop} {x : Nat} : ax k_M_text 29 [some (.ref x), a1, a2] st σ Q = ax k_M_text 30 [some (.ref x), a1, a2] (.ref x :: st) σ Q := ru_loc (q := (_, _)) f_M_text_29 rfl rfl rfl
theorem f_M_text_30 : am_cd k_M_text 30 = some ((some .int), .getfield 100, (11, 38, 955, 0, 0, .null)) := rfl
theorem s_M_text_30 {ls : am_L} {st : List Value} {σ : am_H} {Q : Option Value → am_H → Prop} {a : Nat} : ax k_M_text 30 ls (.ref a :: st) σ Q = ax_f (am_fld σ a 11 38) (fun v => ax k_M_text 33 ls (v :: st) σ Q) := ru_getf f_M_text_30 rfl
theorem f_M_text_33 : am_cd k_M_text 33 = some ((some .int), .ifCond .ne 7, (40, 0, 0, 0, 0, .null)) := rfl
theorem s_M_text_33 {ls : am_L} {st : List Value} {σ : am_H} {Q : Option Value → am_H → Prop} {x : Int32} : ax k_M_text 33 ls (.int x :: st) σ Q = (if x = 0 then ax k_M_text 36 ls st σ Q else ax k_M_text 40 ls st σ Q) := (ru_if f_M_text_33 rfl).trans (ru_i_ne _ _ _ _)
theorem f_M_text_36 : am_cd k_M_text 36 = some ((some .int), .iconst (-1), (0, 0, 0, 0, 0, .null)) := rfl
theorem s_M_text_36 {ls : am_L} {st : List Value} {σ : am_H} {Q : Option Value → am_H → Prop} : ax k_M_text 36 ls st σ Q = ax k_M_text 37 ls (.int (-1) :: st) σ Q := ru_iconst f_M_text_36 (by decide +kernel) rfl
theorem f_M_text_37 : am_cd k_M_text 37 = some ((some .int), .goto 7, (44, 0, 0, 0, 0, .null)) := rfl
theorem s_M_text_37 {ls : am_L} {st : List Value} {σ : am_H} {Q : Option Value → am_H → Prop} : ax k_M_text 37 ls st σ Q = ax k_M_text 44 ls st σ Q := ru_goto f_M_text_37
theorem f_M_text_40 : am_cd k_M_text 40 = some ((some .int), .aload_n 0, (0, 0, 0, 0, 0, .null)) := rfl
theorem s_M_text_40 {a1 a2 : Option Value} {st : List Value} {σ : am_H} {Q : Option Value → am_H → Prop} {x : Nat} : ax k_M_text 40 [some (.ref x), a1, a2] st σ Q = ax k_M_text 41 [some (.ref x), a1, a2] (.ref x :: st) σ Q := ru_loc (q := (_, _)) f_M_text_40 rfl rfl rfl
theorem f_M_text_41 : am_cd k_M_text 41 = some ((some .int), .getfield 248, (11, 41, 958, 0, 0, .null)) := rfl
theorem s_M_text_41 {ls : am_L} {st : List Value} {σ : am_H} {Q : Option Value → am_H → Prop} {a : Nat} : ax k_M_text 41 ls (.ref a :: st) σ Q = ax_f (am_fld σ a 11 41) (fun v => ax k_M_text 44 ls (v :: st) σ Q) := ru_getf f_M_text_41 rfl
theorem f_M_text_44 : am_cd k_M_text 44 = some ((some .int), .putfield 103, (11, 39, 956, 0, 0, .null)) := rfl
theorem s_M_text_44 {ls : am_L} {st : List Value} {σ : am_H} {Q : Option Value → am_H → Prop} {a : Nat} {v : Value} : ax k_M_text 44 ls (v :: .ref a :: st) σ Q = ax_f (am_fld σ a 11 39) (fun _ => a < am_top ∧ am_okv 0 v = true ∧ ax k_M_text 47 ls st (am_put σ a 39 v) Q) := ru_putf f_M_text_44 rfl
theorem f_M_text_47 : am_cd k_M_text 47 = some ((some .int), .aload_n 0, (0, 0, 0, 0, 0, .null)) := rfl
theorem s_M_text_47 {a1 a2 : Option Value} {st : List Value} {σ : am_H} {Q : Option Value → am_H → Prop} {x : Nat} : ax k_M_text 47 [some (.ref x), a1, a2] st σ Q = ax k_M_text 48 [some (.ref x), a1, a2] (.ref x :: st) σ Q := ru_loc (q := (_, _)) f_M_text_47 rfl rfl rfl
theorem f_M_text_48 : am_cd k_M_text 48 = some ((some .int), .iconst 0, (0, 0, 0, 0, 0, .null)) := rfl
theorem s_M_text_48 {ls : am_L} {st : List Value} {σ : am_H} {Q : Option Value → am_H → Prop} : ax k_M_text 48 ls st σ Q = ax k_M_text 49 ls (.int 0 :: st) σ Q := ru_iconst f_M_text_48 (by decide +kernel) rfl
theorem f_M_text_49 : am_cd k_M_text 49 = some ((some .int), .putfield 232, (11, 29, 946, 0, 0, .null)) := rfl
theorem s_M_text_49 {ls : am_L} {st : List Value} {σ : am_H} {Q : Option Value → am_H → Prop} {a : Nat} {v : Value} : ax k_M_text 49 ls (v :: .ref a :: st) σ Q = ax_f (am_fld σ a 11 29) (fun _ => a < am_top ∧ am_okv 0 v = true ∧ ax k_M_text 52 ls st (am_put σ a 29 v) Q) := ru_putf f_M_text_49 rfl
theorem f_M_text_52 : am_cd k_M_text 52 = some ((some .int), .aload_n 0, (0, 0, 0, 0, 0, .null)) := rfl
theorem s_M_text_52 {a1 a2 : Option Value} {st : List Value} {σ : am_H} {Q : Option Value → am_H → Prop} {x : Nat} : ax k_M_text 52 [some (.ref x), a1, a2] st σ Q = ax k_M_text 53 [some (.ref x), a1, a2] (.ref x :: st) σ Q := ru_loc (q := (_, _)) f_M_text_52 rfl rfl rfl
theorem f_M_text_53 : am_cd k_M_text 53 = some ((some .int), .getfield 100, (11, 38, 955, 0, 0, .null)) := rfl
theorem s_M_text_53 {ls : am_L} {st : List Value} {σ : am_H} {Q : Option Value → am_H → Prop} {a : Nat} : ax k_M_text 53 ls (.ref a :: st) σ Q = ax_f (am_fld σ a 11 38) (fun v => ax k_M_text 56 ls (v :: st) σ Q) := ru_getf f_M_text_53 rfl
theorem f_M_text_56 : am_cd k_M_text 56 = some ((some .int), .ifCond .eq 5, (61, 0, 0, 0, 0, .null)) := rfl
theorem s_M_text_56 {ls : am_L} {st : List Value} {σ : am_H} {Q : Option Value → am_H → Prop} {x : Int32} : ax k_M_text 56 ls (.int x :: st) σ Q = (if x = 0 then ax k_M_text 61 ls st σ Q else ax k_M_text 59 ls st σ Q) := (ru_if f_M_text_56 rfl).trans (ru_i_eq _ _ _ _)
theorem f_M_text_59 : am_cd k_M_text 59 = some ((some .int), .iconst (-1), (0, 0, 0, 0, 0, .null)) := rfl
theorem s_M_text_59 {ls : am_L} {st : List Value} {σ : am_H} {Q : Option Value → am_H → Prop} : ax k_M_text 59 ls st σ Q = ax k_M_text 60 ls (.int (-1) :: st) σ Q := ru_iconst f_M_text_59 (by decide +kernel) rfl
theorem f_M_text_60 : am_cd k_M_text 60 = some ((some .int), .ireturn, (0, 0, 0, 0, 0, .null)) := rfl
theorem s_M_text_60 {ls : am_L} {σ : am_H} {Q : Option Value → am_H → Prop} {v : Int32} : ax k_M_text 60 ls [.int v] σ Q = Q (some (.int v)) σ := ru_iretI f_M_text_60
theorem f_M_text_61 : am_cd k_M_text 61 = some ((some .int), .iconst 3, (0, 0, 0, 0, 0, .null)) := rfl
theorem s_M_text_61 {ls : am_L} {st : List Value} {σ : am_H} {Q : Option Value → am_H → Prop} : ax k_M_text 61 ls st σ Q = ax k_M_text 62 ls (.int 3 :: st) σ Q := ru_iconst f_M_text_61 (by decide +kernel) rfl
theorem f_M_text_62 : am_cd k_M_text 62 = some ((some .int), .iload_n 1, (0, 0, 0, 0, 0, .null)) := rfl
theorem s_M_text_62 {a0 a2 : Option Value} {st : List Value} {σ : am_H} {Q : Option Value → am_H → Prop} {x : Int32} : ax k_M_text 62 [a0, some (.int x), a2] st σ Q = ax k_M_text 63 [a0, some (.int x), a2] (.int x :: st) σ Q := ru_loc (q := (_, _)) f_M_text_62 rfl rfl rfl
theorem f_M_text_63 : am_cd k_M_text 63 = some ((some .int), .imul, (0, 0, 0, 0, 0, .null)) := rfl
theorem s_M_text_63 {ls : am_L} {st : List Value} {σ : am_H} {Q : Option Value → am_H → Prop} {x y : Int32} : ax k_M_text 63 ls (.int y :: .int x :: st) σ Q = ax k_M_text 64 ls (.int (x * y) :: st) σ Q := ru_pure f_M_text_63 rfl rfl
theorem f_M_text_64 : am_cd k_M_text 64 = some ((some .int), .aload_n 0, (0, 0, 0, 0, 0, .null)) := rfl
theorem s_M_text_64 {a1 a2 : Option Value} {st : List Value} {σ : am_H} {Q : Option Value → am_H → Prop} {x : Nat} : ax k_M_text 64 [some (.ref x), a1, a2] st σ Q = ax k_M_text 65 [some (.ref x), a1, a2] (.ref x :: st) σ Q := ru_loc (q := (_, _)) f_M_text_64 rfl rfl rfl
theorem f_M_text_65 : am_cd k_M_text 65 = some ((some .int), .getfield 75, (11, 30, 947, 0, 3, .null)) := rfl
theorem s_M_text_65 {ls : am_L} {st : List Value} {σ : am_H} {Q : Option Value → am_H → Prop} {a : Nat} : ax k_M_text 65 ls (.ref a :: st) σ Q = ax_f (am_fld σ a 11 30) (fun v => ax k_M_text 68 ls (v :: st) σ Q) := ru_getf f_M_text_65 rfl
theorem f_M_text_68 : am_cd k_M_text 68 = some ((some .int), .iload_n 1, (0, 0, 0, 0, 0, .null)) := rfl
theorem s_M_text_68 {a0 a2 : Option Value} {st : List Value} {σ : am_H} {Q : Option Value → am_H → Prop} {x : Int32} : ax k_M_text 68 [a0, some (.int x), a2] st σ Q = ax k_M_text 69 [a0, some (.int x), a2] (.int x :: st) σ Q := ru_loc (q := (_, _)) f_M_text_68 rfl rfl rfl
theorem f_M_text_69 : am_cd k_M_text 69 = some ((some .int), .iaload, (0, 0, 0, 0, 0, .null)) := rfl
theorem s_M_text_69 {ls : am_L} {st : List Value} {σ : am_H} {Q : Option Value → am_H → Prop} {a : Nat} {j : Int32} : ax k_M_text 69 ls (.int j :: .ref a :: st) σ Q = ax_f (am_j σ a) (fun q => q.1 = 0 ∧ am_ix j q.2.1 ∧ ax k_M_text 70 ls (.int (q.2.2 j.toNatClampNeg) :: st) σ Q) := rv_iald f_M_text_69 rfl
theorem f_M_text_70 : am_cd k_M_text 70 = some ((some .int), .iadd, (0, 0, 0, 0, 0, .null)) := rfl
theorem s_M_text_70 {ls : am_L} {st : List Value} {σ : am_H} {Q : Option Value → am_H → Prop} {x y : Int32} : ax k_M_text 70 ls (.int y :: .int x :: st) σ Q = ax k_M_text 71 ls (.int (x + y) :: st) σ Q := ru_pure f_M_text_70 rfl rfl
theorem f_M_text_71 : am_cd k_M_text 71 = some ((some .int), .istore_n 2, (0, 0, 0, 0, 0, .null)) := rfl
theorem s_M_text_71 {a0 a1 a2 : Option Value} {st : List Value} {σ : am_H} {Q : Option Value → am_H → Prop} {x : Int32} (hc : am_c2 a1 = false) : ax k_M_text 71 [a0, a1, a2] (.int x :: st) σ Q = ax k_M_text 72 [a0, a1, some (.int x)] st σ Q := ru_istore_n f_M_text_71 (Nat.le_of_ble_eq_true rfl) (ru_st1 (Nat.le_of_ble_eq_true rfl) (am_clr_c2 hc rfl) rfl) rfl
theorem f_M_text_72 : am_cd k_M_text 72 = some ((some .int), .aload_n 0, (0, 0, 0, 0, 0, .null)) := rfl
theorem s_M_text_72 {a1 a2 : Option Value} {st : List Value} {σ : am_H} {Q : Option Value → am_H → Prop} {x : Nat} : ax k_M_text 72 [some (.ref x), a1, a2] st σ Q = ax k_M_text 73 [some (.ref x), a1, a2] (.ref x :: st) σ Q := ru_loc (q := (_, _)) f_M_text_72 rfl rfl rfl
theorem f_M_text_73 : am_cd k_M_text 73 = some ((some .int), .getfield 78, (11, 31, 948, 0, 3, .null)) := rfl
theorem s_M_text_73 {ls : am_L} {st : List Value} {σ : am_H} {Q : Option Value → am_H → Prop} {a : Nat} : ax k_M_text 73 ls (.ref a :: st) σ Q = ax_f (am_fld σ a 11 31) (fun v => ax k_M_text 76 ls (v :: st) σ Q) := ru_getf f_M_text_73 rfl
theorem f_M_text_76 : am_cd k_M_text 76 = some ((some .int), .iload_n 2, (0, 0, 0, 0, 0, .null)) := rfl
theorem s_M_text_76 {a0 a1 : Option Value} {st : List Value} {σ : am_H} {Q : Option Value → am_H → Prop} {x : Int32} : ax k_M_text 76 [a0, a1, some (.int x)] st σ Q = ax k_M_text 77 [a0, a1, some (.int x)] (.int x :: st) σ Q := ru_loc (q := (_, _)) f_M_text_76 rfl rfl rfl
theorem f_M_text_77 : am_cd k_M_text 77 = some ((some .int), .aload_n 0, (0, 0, 0, 0, 0, .null)) := rfl
theorem s_M_text_77 {a1 a2 : Option Value} {st : List Value} {σ : am_H} {Q : Option Value → am_H → Prop} {x : Nat} : ax k_M_text 77 [some (.ref x), a1, a2] st σ Q = ax k_M_text 78 [some (.ref x), a1, a2] (.ref x :: st) σ Q := ru_loc (q := (_, _)) f_M_text_77 rfl rfl rfl
theorem f_M_text_78 : am_cd k_M_text 78 = some ((some .int), .getfield 78, (11, 31, 948, 0, 3, .null)) := rfl
theorem s_M_text_78 {ls : am_L} {st : List Value} {σ : am_H} {Q : Option Value → am_H → Prop} {a : Nat} : ax k_M_text 78 ls (.ref a :: st) σ Q = ax_f (am_fld σ a 11 31) (fun v => ax k_M_text 81 ls (v :: st) σ Q) := ru_getf f_M_text_78 rfl
theorem f_M_text_81 : am_cd k_M_text 81 = some ((some .int), .bipush 120, (0, 0, 0, 0, 0, .null)) := rfl
theorem s_M_text_81 {ls : am_L} {st : List Value} {σ : am_H} {Q : Option Value → am_H → Prop} : ax k_M_text 81 ls st σ Q = ax k_M_text 83 ls (.int 120 :: st) σ Q := ru_bipush f_M_text_81 (by decide +kernel) rfl
theorem f_M_text_83 : am_cd k_M_text 83 = some ((some .int), .iaload, (0, 0, 0, 0, 0, .null)) := rfl
theorem s_M_text_83 {ls : am_L} {st : List Value} {σ : am_H} {Q : Option Value → am_H → Prop} {a : Nat} {j : Int32} : ax k_M_text 83 ls (.int j :: .ref a :: st) σ Q = ax_f (am_j σ a) (fun q => q.1 = 0 ∧ am_ix j q.2.1 ∧ ax k_M_text 84 ls (.int (q.2.2 j.toNatClampNeg) :: st) σ Q) := rv_iald f_M_text_83 rfl
theorem f_M_text_84 : am_cd k_M_text 84 = some ((some .int), .iastore, (0, 0, 0, 0, 0, .null)) := rfl
theorem s_M_text_84 {ls : am_L} {st : List Value} {σ : am_H} {Q : Option Value → am_H → Prop} {a : Nat} {j x : Int32} : ax k_M_text 84 ls (.int x :: .int j :: .ref a :: st) σ Q = ax_f (am_j σ a) (fun q => q.1 = 0 ∧ am_ix j q.2.1 ∧ a < am_top ∧ ax k_M_text 85 ls st (am_set σ a (am_ia 0 q.2.1 (upd q.2.2 j.toNatClampNeg x))) Q) := rv_iast f_M_text_84 rfl
theorem f_M_text_85 : am_cd k_M_text 85 = some ((some .int), .aload_n 0, (0, 0, 0, 0, 0, .null)) := rfl
theorem s_M_text_85 {a1 a2 : Option Value} {st : List Value} {σ : am_H} {Q : Option Value → am_H → Prop} {x : Nat} : ax k_M_text 85 [some (.ref x), a1, a2] st σ Q = ax k_M_text 86 [some (.ref x), a1, a2] (.ref x :: st) σ Q := ru_loc (q := (_, _)) f_M_text_85 rfl rfl rfl
theorem f_M_text_86 : am_cd k_M_text 86 = some ((some .int), .getfield 81, (11, 32, 949, 0, 3, .null)) := rfl
theorem s_M_text_86 {ls : am_L} {st : List Value} {σ : am_H} {Q : Option Value → am_H → Prop} {a : Nat} : ax k_M_text 86 ls (.ref a :: st) σ Q = ax_f (am_fld σ a 11 32) (fun v => ax k_M_text 89 ls (v :: st) σ Q) := ru_getf f_M_text_86 rfl
theorem f_M_text_89 : am_cd k_M_text 89 = some ((some .int), .iload_n 2, (0, 0, 0, 0, 0, .null)) := rfl
theorem s_M_text_89 {a0 a1 : Option Value} {st : List Value} {σ : am_H} {Q : Option Value → am_H → Prop} {x : Int32} : ax k_M_text 89 [a0, a1, some (.int x)] st σ Q = ax k_M_text 90 [a0, a1, some (.int x)] (.int x :: st) σ Q := ru_loc (q := (_, _)) f_M_text_89 rfl rfl rfl
theorem f_M_text_90 : am_cd k_M_text 90 = some ((some .int), .aload_n 0, (0, 0, 0, 0, 0, .null)) := rfl
theorem s_M_text_90 {a1 a2 : Option Value} {st : List Value} {σ : am_H} {Q : Option Value → am_H → Prop} {x : Nat} : ax k_M_text 90 [some (.ref x), a1, a2] st σ Q = ax k_M_text 91 [some (.ref x), a1, a2] (.ref x :: st) σ Q := ru_loc (q := (_, _)) f_M_text_90 rfl rfl rfl
theorem f_M_text_91 : am_cd k_M_text 91 = some ((some .int), .getfield 81, (11, 32, 949, 0, 3, .null)) := rfl
theorem s_M_text_91 {ls : am_L} {st : List Value} {σ : am_H} {Q : Option Value → am_H → Prop} {a : Nat} : ax k_M_text 91 ls (.ref a :: st) σ Q = ax_f (am_fld σ a 11 32) (fun v => ax k_M_text 94 ls (v :: st) σ Q) := ru_getf f_M_text_91 rfl
theorem f_M_text_94 : am_cd k_M_text 94 = some ((some .int), .bipush 120, (0, 0, 0, 0, 0, .null)) := rfl
theorem s_M_text_94 {ls : am_L} {st : List Value} {σ : am_H} {Q : Option Value → am_H → Prop} : ax k_M_text 94 ls st σ Q = ax k_M_text 96 ls (.int 120 :: st) σ Q := ru_bipush f_M_text_94 (by decide +kernel) rfl
theorem f_M_text_96 : am_cd k_M_text 96 = some ((some .int), .iaload, (0, 0, 0, 0, 0, .null)) := rfl
theorem s_M_text_96 {ls : am_L} {st : List Value} {σ : am_H} {Q : Option Value → am_H → Prop} {a : Nat} {j : Int32} : ax k_M_text 96 ls (.int j :: .ref a :: st) σ Q = ax_f (am_j σ a) (fun q => q.1 = 0 ∧ am_ix j q.2.1 ∧ ax k_M_text 97 ls (.int (q.2.2 j.toNatClampNeg) :: st) σ Q) := rv_iald f_M_text_96 rfl
theorem f_M_text_97 : am_cd k_M_text 97 = some ((some .int), .iastore, (0, 0, 0, 0, 0, .null)) := rfl
theorem s_M_text_97 {ls : am_L} {st : List Value} {σ : am_H} {Q : Option Value → am_H → Prop} {a : Nat} {j x : Int32} : ax k_M_text 97 ls (.int x :: .int j :: .ref a :: st) σ Q = ax_f (am_j σ a) (fun q => q.1 = 0 ∧ am_ix j q.2.1 ∧ a < am_top ∧ ax k_M_text 98 ls st (am_set σ a (am_ia 0 q.2.1 (upd q.2.2 j.toNatClampNeg x))) Q) := rv_iast f_M_text_97 rfl
theorem f_M_text_98 : am_cd k_M_text 98 = some ((some .int), .aload_n 0, (0, 0, 0, 0, 0, .null)) := rfl
theorem s_M_text_98 {a1 a2 : Option Value} {st : List Value} {σ : am_H} {Q : Option Value → am_H → Prop} {x : Nat} : ax k_M_text 98 [some (.ref x), a1, a2] st σ Q = ax k_M_text 99 [some (.ref x), a1, a2] (.ref x :: st) σ Q := ru_loc (q := (_, _)) f_M_text_98 rfl rfl rfl
theorem f_M_text_99 : am_cd k_M_text 99 = some ((some .int), .getfield 84, (11, 33, 950, 0, 3, .null)) := rfl
theorem s_M_text_99 {ls : am_L} {st : List Value} {σ : am_H} {Q : Option Value → am_H → Prop} {a : Nat} : ax k_M_text 99 ls (.ref a :: st) σ Q = ax_f (am_fld σ a 11 33) (fun v => ax k_M_text 102 ls (v :: st) σ Q) := ru_getf f_M_text_99 rfl
theorem f_M_text_102 : am_cd k_M_text 102 = some ((some .int), .iload_n 2, (0, 0, 0, 0, 0, .null)) := rfl
theorem s_M_text_102 {a0 a1 : Option Value} {st : List Value} {σ : am_H} {Q : Option Value → am_H → Prop} {x : Int32} : ax k_M_text 102 [a0, a1, some (.int x)] st σ Q = ax k_M_text 103 [a0, a1, some (.int x)] (.int x :: st) σ Q := ru_loc (q := (_, _)) f_M_text_102 rfl rfl rfl
theorem f_M_text_103 : am_cd k_M_text 103 = some ((some .int), .aload_n 0, (0, 0, 0, 0, 0, .null)) := rfl
theorem s_M_text_103 {a1 a2 : Option Value} {st : List Value} {σ : am_H} {Q : Option Value → am_H → Prop} {x : Nat} : ax k_M_text 103 [some (.ref x), a1, a2] st σ Q = ax k_M_text 104 [some (.ref x), a1, a2] (.ref x :: st) σ Q := ru_loc (q := (_, _)) f_M_text_103 rfl rfl rfl
theorem f_M_text_104 : am_cd k_M_text 104 = some ((some .int), .getfield 84, (11, 33, 950, 0, 3, .null)) := rfl
theorem s_M_text_104 {ls : am_L} {st : List Value} {σ : am_H} {Q : Option Value → am_H → Prop} {a : Nat} : ax k_M_text 104 ls (.ref a :: st) σ Q = ax_f (am_fld σ a 11 33) (fun v => ax k_M_text 107 ls (v :: st) σ Q) := ru_getf f_M_text_104 rfl
theorem f_M_text_107 : am_cd k_M_text 107 = some ((some .int), .bipush 120, (0, 0, 0, 0, 0, .null)) := rfl
theorem s_M_text_107 {ls : am_L} {st : List Value} {σ : am_H} {Q : Option Value → am_H → Prop} : ax k_M_text 107 ls st σ Q = ax k_M_text 109 ls (.int 120 :: st) σ Q := ru_bipush f_M_text_107 (by decide +kernel) rfl
theorem f_M_text_109 : am_cd k_M_text 109 = some ((some .int), .iaload, (0, 0, 0, 0, 0, .null)) := rfl
theorem s_M_text_109 {ls : am_L} {st : List Value} {σ : am_H} {Q : Option Value → am_H → Prop} {a : Nat} {j : Int32} : ax k_M_text 109 ls (.int j :: .ref a :: st) σ Q = ax_f (am_j σ a) (fun q => q.1 = 0 ∧ am_ix j q.2.1 ∧ ax k_M_text 110 ls (.int (q.2.2 j.toNatClampNeg) :: st) σ Q) := rv_iald f_M_text_109 rfl
theorem f_M_text_110 : am_cd k_M_text 110 = some ((some .int), .iastore, (0, 0, 0, 0, 0, .null)) := rfl
theorem s_M_text_110 {ls : am_L} {st : List Value} {σ : am_H} {Q : Option Value → am_H → Prop} {a : Nat} {j x : Int32} : ax k_M_text 110 ls (.int x :: .int j :: .ref a :: st) σ Q = ax_f (am_j σ a) (fun q => q.1 = 0 ∧ am_ix j q.2.1 ∧ a < am_top ∧ ax k_M_text 111 ls st (am_set σ a (am_ia 0 q.2.1 (upd q.2.2 j.toNatClampNeg x))) Q) := rv_iast f_M_text_110 rfl
theorem f_M_text_111 : am_cd k_M_text 111 = some ((some .int), .aload_n 0, (0, 0, 0, 0, 0, .null)) := rfl
theorem s_M_text_111 {a1 a2 : Option Value} {st : List Value} {σ : am_H} {Q : Option Value → am_H → Prop} {x : Nat} : ax k_M_text 111 [some (.ref x), a1, a2] st σ Q = ax k_M_text 112 [some (.ref x), a1, a2] (.ref x :: st) σ Q := ru_loc (q := (_, _)) f_M_text_111 rfl rfl rfl
theorem f_M_text_112 : am_cd k_M_text 112 = some ((some .int), .getfield 87, (11, 34, 951, 0, 3, .null)) := rfl
theorem s_M_text_112 {ls : am_L} {st : List Value} {σ : am_H} {Q : Option Value → am_H → Prop} {a : Nat} : ax k_M_text 112 ls (.ref a :: st) σ Q = ax_f (am_fld σ a 11 34) (fun v => ax k_M_text 115 ls (v :: st) σ Q) := ru_getf f_M_text_112 rfl
theorem f_M_text_115 : am_cd k_M_text 115 = some ((some .int), .iload_n 2, (0, 0, 0, 0, 0, .null)) := rfl
theorem s_M_text_115 {a0 a1 : Option Value} {st : List Value} {σ : am_H} {Q : Option Value → am_H → Prop} {x : Int32} : ax k_M_text 115 [a0, a1, some (.int x)] st σ Q = ax k_M_text 116 [a0, a1, some (.int x)] (.int x :: st) σ Q := ru_loc (q := (_, _)) f_M_text_115 rfl rfl rfl
theorem f_M_text_116 : am_cd k_M_text 116 = some ((some .int), .aload_n 0, (0, 0, 0, 0, 0, .null)) := rfl
theorem s_M_text_116 {a1 a2 : Option Value} {st : List Value} {σ : am_H} {Q : Option Value → am_H → Prop} {x : Nat} : ax k_M_text 116 [some (.ref x), a1, a2] st σ Q = ax k_M_text 117 [some (.ref x), a1, a2] (.ref x :: st) σ Q := ru_loc (q := (_, _)) f_M_text_116 rfl rfl rfl
theorem f_M_text_117 : am_cd k_M_text 117 = some ((some .int), .getfield 87, (11, 34, 951, 0, 3, .null)) := rfl
theorem s_M_text_117 {ls : am_L} {st : List Value} {σ : am_H} {Q : Option Value → am_H → Prop} {a : Nat} : ax k_M_text 117 ls (.ref a :: st) σ Q = ax_f (am_fld σ a 11 34) (fun v => ax k_M_text 120 ls (v :: st) σ Q) := ru_getf f_M_text_117 rfl
theorem f_M_text_120 : am_cd k_M_text 120 = some ((some .int), .bipush 120, (0, 0, 0, 0, 0, .null)) := rfl
theorem s_M_text_120 {ls : am_L} {st : List Value} {σ : am_H} {Q : Option Value → am_H → Prop} : ax k_M_text 120 ls st σ Q = ax k_M_text 122 ls (.int 120 :: st) σ Q := ru_bipush f_M_text_120 (by decide +kernel) rfl
theorem f_M_text_122 : am_cd k_M_text 122 = some ((some .int), .iaload, (0, 0, 0, 0, 0, .null)) := rfl
theorem s_M_text_122 {ls : am_L} {st : List Value} {σ : am_H} {Q : Option Value → am_H → Prop} {a : Nat} {j : Int32} : ax k_M_text 122 ls (.int j :: .ref a :: st) σ Q = ax_f (am_j σ a) (fun q => q.1 = 0 ∧ am_ix j q.2.1 ∧ ax k_M_text 123 ls (.int (q.2.2 j.toNatClampNeg) :: st) σ Q) := rv_iald f_M_text_122 rfl
theorem f_M_text_123 : am_cd k_M_text 123 = some ((some .int), .iastore, (0, 0, 0, 0, 0, .null)) := rfl
theorem s_M_text_123 {ls : am_L} {st : List Value} {σ : am_H} {Q : Option Value → am_H → Prop} {a : Nat} {j x : Int32} : ax k_M_text 123 ls (.int x :: .int j :: .ref a :: st) σ Q = ax_f (am_j σ a) (fun q => q.1 = 0 ∧ am_ix j q.2.1 ∧ a < am_top ∧ ax k_M_text 124 ls st (am_set σ a (am_ia 0 q.2.1 (upd q.2.2 j.toNatClampNeg x))) Q) := rv_iast f_M_text_123 rfl
theorem f_M_text_124 : am_cd k_M_text 124 = some ((some .int), .aload_n 0, (0, 0, 0, 0, 0, .null)) := rfl
theorem s_M_text_124 {a1 a2 : Option Value} {st : List Value} {σ : am_H} {Q : Option Value → am_H → Prop} {x : Nat} : ax k_M_text 124 [some (.ref x), a1, a2] st σ Q = ax k_M_text 125 [some (.ref x), a1, a2] (.ref x :: st) σ Q := ru_loc (q := (_, _)) f_M_text_124 rfl rfl rfl
theorem f_M_text_125 : am_cd k_M_text 125 = some ((some .int), .getfield 90, (11, 35, 952, 0, 3, .null)) := rfl
theorem s_M_text_125 {ls : am_L} {st : List Value} {σ : am_H} {Q : Option Value → am_H → Prop} {a : Nat} : ax k_M_text 125 ls (.ref a :: st) σ Q = ax_f (am_fld σ a 11 35) (fun v => ax k_M_text 128 ls (v :: st) σ Q) := ru_getf f_M_text_125 rfl
theorem f_M_text_128 : am_cd k_M_text 128 = some ((some .int), .iload_n 2, (0, 0, 0, 0, 0, .null)) := rfl
theorem s_M_text_128 {a0 a1 : Option Value} {st : List Value} {σ : am_H} {Q : Option Value → am_H → Prop} {x : Int32} : ax k_M_text 128 [a0, a1, some (.int x)] st σ Q = ax k_M_text 129 [a0, a1, some (.int x)] (.int x :: st) σ Q := ru_loc (q := (_, _)) f_M_text_128 rfl rfl rfl
theorem f_M_text_129 : am_cd k_M_text 129 = some ((some .int), .aload_n 0, (0, 0, 0, 0, 0, .null)) := rfl
theorem s_M_text_129 {a1 a2 : Option Value} {st : List Value} {σ : am_H} {Q : Option Value → am_H → Prop} {x : Nat} : ax k_M_text 129 [some (.ref x), a1, a2] st σ Q = ax k_M_text 130 [some (.ref x), a1, a2] (.ref x :: st) σ Q := ru_loc (q := (_, _)) f_M_text_129 rfl rfl rfl
theorem f_M_text_130 : am_cd k_M_text 130 = some ((some .int), .getfield 90, (11, 35, 952, 0, 3, .null)) := rfl
theorem s_M_text_130 {ls : am_L} {st : List Value} {σ : am_H} {Q : Option Value → am_H → Prop} {a : Nat} : ax k_M_text 130 ls (.ref a :: st) σ Q = ax_f (am_fld σ a 11 35) (fun v => ax k_M_text 133 ls (v :: st) σ Q) := ru_getf f_M_text_130 rfl
theorem f_M_text_133 : am_cd k_M_text 133 = some ((some .int), .bipush 120, (0, 0, 0, 0, 0, .null)) := rfl
theorem s_M_text_133 {ls : am_L} {st : List Value} {σ : am_H} {Q : Option Value → am_H → Prop} : ax k_M_text 133 ls st σ Q = ax k_M_text 135 ls (.int 120 :: st) σ Q := ru_bipush f_M_text_133 (by decide +kernel) rfl
theorem f_M_text_135 : am_cd k_M_text 135 = some ((some .int), .iaload, (0, 0, 0, 0, 0, .null)) := rfl
theorem s_M_text_135 {ls : am_L} {st : List Value} {σ : am_H} {Q : Option Value → am_H → Prop} {a : Nat} {j : Int32} : ax k_M_text 135 ls (.int j :: .ref a :: st) σ Q = ax_f (am_j σ a) (fun q => q.1 = 0 ∧ am_ix j q.2.1 ∧ ax k_M_text 136 ls (.int (q.2.2 j.toNatClampNeg) :: st) σ Q) := rv_iald f_M_text_135 rfl
theorem f_M_text_136 : am_cd k_M_text 136 = some ((some .int), .iastore, (0, 0, 0, 0, 0, .null)) := rfl
theorem s_M_text_136 {ls : am_L} {st : List Value} {σ : am_H} {Q : Option Value → am_H → Prop} {a : Nat} {j x : Int32} : ax k_M_text 136 ls (.int x :: .int j :: .ref a :: st) σ Q = ax_f (am_j σ a) (fun q => q.1 = 0 ∧ am_ix j q.2.1 ∧ a < am_top ∧ ax k_M_text 137 ls st (am_set σ a (am_ia 0 q.2.1 (upd q.2.2 j.toNatClampNeg x))) Q) := rv_iast f_M_text_136 rfl
theorem f_M_text_137 : am_cd k_M_text 137 = some ((some .int), .aload_n 0, (0, 0, 0, 0, 0, .null)) := rfl
theorem s_M_text_137 {a1 a2 : Option Value} {st : List Value} {σ : am_H} {Q : Option Value → am_H → Prop} {x : Nat} : ax k_M_text 137 [some (.ref x), a1, a2] st σ Q = ax k_M_text 138 [some (.ref x), a1, a2] (.ref x :: st) σ Q := ru_loc (q := (_, _)) f_M_text_137 rfl rfl rfl
theorem f_M_text_138 : am_cd k_M_text 138 = some ((some .int), .getfield 93, (11, 36, 953, 0, 3, .null)) := rfl
theorem s_M_text_138 {ls : am_L} {st : List Value} {σ : am_H} {Q : Option Value → am_H → Prop} {a : Nat} : ax k_M_text 138 ls (.ref a :: st) σ Q = ax_f (am_fld σ a 11 36) (fun v => ax k_M_text 141 ls (v :: st) σ Q) := ru_getf f_M_text_138 rfl
theorem f_M_text_141 : am_cd k_M_text 141 = some ((some .int), .iload_n 2, (0, 0, 0, 0, 0, .null)) := rfl
theorem s_M_text_141 {a0 a1 : Option Value} {st : List Value} {σ : am_H} {Q : Option Value → am_H → Prop} {x : Int32} : ax k_M_text 141 [a0, a1, some (.int x)] st σ Q = ax k_M_text 142 [a0, a1, some (.int x)] (.int x :: st) σ Q := ru_loc (q := (_, _)) f_M_text_141 rfl rfl rfl
theorem f_M_text_142 : am_cd k_M_text 142 = some ((some .int), .aload_n 0, (0, 0, 0, 0, 0, .null)) := rfl
theorem s_M_text_142 {a1 a2 : Option Value} {st : List Value} {σ : am_H} {Q : Option Value → am_H → Prop} {x : Nat} : ax k_M_text 142 [some (.ref x), a1, a2] st σ Q = ax k_M_text 143 [some (.ref x), a1, a2] (.ref x :: st) σ Q := ru_loc (q := (_, _)) f_M_text_142 rfl rfl rfl
theorem f_M_text_143 : am_cd k_M_text 143 = some ((some .int), .getfield 93, (11, 36, 953, 0, 3, .null)) := rfl
theorem s_M_text_143 {ls : am_L} {st : List Value} {σ : am_H} {Q : Option Value → am_H → Prop} {a : Nat} : ax k_M_text 143 ls (.ref a :: st) σ Q = ax_f (am_fld σ a 11 36) (fun v => ax k_M_text 146 ls (v :: st) σ Q) := ru_getf f_M_text_143 rfl
theorem f_M_text_146 : am_cd k_M_text 146 = some ((some .int), .bipush 120, (0, 0, 0, 0, 0, .null)) := rfl
theorem s_M_text_146 {ls : am_L} {st : List Value} {σ : am_H} {Q : Option Value → am_H → Prop} : ax k_M_text 146 ls st σ Q = ax k_M_text 148 ls (.int 120 :: st) σ Q := ru_bipush f_M_text_146 (by decide +kernel) rfl
theorem f_M_text_148 : am_cd k_M_text 148 = some ((some .int), .iaload, (0, 0, 0, 0, 0, .null)) := rfl
theorem s_M_text_148 {ls : am_L} {st : List Value} {σ : am_H} {Q : Option Value → am_H → Prop} {a : Nat} {j : Int32} : ax k_M_text 148 ls (.int j :: .ref a :: st) σ Q = ax_f (am_j σ a) (fun q => q.1 = 0 ∧ am_ix j q.2.1 ∧ ax k_M_text 149 ls (.int (q.2.2 j.toNatClampNeg) :: st) σ Q) := rv_iald f_M_text_148 rfl
theorem f_M_text_149 : am_cd k_M_text 149 = some ((some .int), .iastore, (0, 0, 0, 0, 0, .null)) := rfl
theorem s_M_text_149 {ls : am_L} {st : List Value} {σ : am_H} {Q : Option Value → am_H → Prop} {a : Nat} {j x : Int32} : ax k_M_text 149 ls (.int x :: .int j :: .ref a :: st) σ Q = ax_f (am_j σ a) (fun q => q.1 = 0 ∧ am_ix j q.2.1 ∧ a < am_top ∧ ax k_M_text 150 ls st (am_set σ a (am_ia 0 q.2.1 (upd q.2.2 j.toNatClampNeg x))) Q) := rv_iast f_M_text_149 rfl
theorem f_M_text_150 : am_cd k_M_text 150 = some ((some .int), .aload_n 0, (0, 0, 0, 0, 0, .null)) := rfl
theorem s_M_text_150 {a1 a2 : Option Value} {st : List Value} {σ : am_H} {Q : Option Value → am_H → Prop} {x : Nat} : ax k_M_text 150 [some (.ref x), a1, a2] st σ Q = ax k_M_text 151 [some (.ref x), a1, a2] (.ref x :: st) σ Q := ru_loc (q := (_, _)) f_M_text_150 rfl rfl rfl
theorem f_M_text_151 : am_cd k_M_text 151 = some ((some .int), .getfield 96, (11, 37, 954, 0, 3, .null)) := rfl
theorem s_M_text_151 {ls : am_L} {st : List Value} {σ : am_H} {Q : Option Value → am_H → Prop} {a : Nat} : ax k_M_text 151 ls (.ref a :: st) σ Q = ax_f (am_fld σ a 11 37) (fun v => ax k_M_text 154 ls (v :: st) σ Q) := ru_getf f_M_text_151 rfl
theorem f_M_text_154 : am_cd k_M_text 154 = some ((some .int), .iload_n 2, (0, 0, 0, 0, 0, .null)) := rfl
theorem s_M_text_154 {a0 a1 : Option Value} {st : List Value} {σ : am_H} {Q : Option Value → am_H → Prop} {x : Int32} : ax k_M_text 154 [a0, a1, some (.int x)] st σ Q = ax k_M_text 155 [a0, a1, some (.int x)] (.int x :: st) σ Q := ru_loc (q := (_, _)) f_M_text_154 rfl rfl rfl
theorem f_M_text_155 : am_cd k_M_text 155 = some ((some .int), .aload_n 0, (0, 0, 0, 0, 0, .null)) := rfl
theorem s_M_text_155 {a1 a2 : Option Value} {st : List Value} {σ : am_H} {Q : Option Value → am_H → Prop} {x : Nat} : ax k_M_text 155 [some (.ref x), a1, a2] st σ Q = ax k_M_text 156 [some (.ref x), a1, a2] (.ref x :: st) σ Q := ru_loc (q := (_, _)) f_M_text_155 rfl rfl rfl
theorem f_M_text_156 : am_cd k_M_text 156 = some ((some .int), .getfield 96, (11, 37, 954, 0, 3, .null)) := rfl
theorem s_M_text_156 {ls : am_L} {st : List Value} {σ : am_H} {Q : Option Value → am_H → Prop} {a : Nat} : ax k_M_text 156 ls (.ref a :: st) σ Q = ax_f (am_fld σ a 11 37) (fun v => ax k_M_text 159 ls (v :: st) σ Q) := ru_getf f_M_text_156 rfl
theorem f_M_text_159 : am_cd k_M_text 159 = some ((some .int), .bipush 120, (0, 0, 0, 0, 0, .null)) := rfl
theorem s_M_text_159 {ls : am_L} {st : List Value} {σ : am_H} {Q : Option Value → am_H → Prop} : ax k_M_text 159 ls st σ Q = ax k_M_text 161 ls (.int 120 :: st) σ Q := ru_bipush f_M_text_159 (by decide +kernel) rfl
theorem f_M_text_161 : am_cd k_M_text 161 = some ((some .int), .laload, (0, 0, 0, 0, 0, .null)) := rfl
theorem s_M_text_161 {ls : am_L} {st : List Value} {σ : am_H} {Q : Option Value → am_H → Prop} {a : Nat} {j : Int32} : ax k_M_text 161 ls (.int j :: .ref a :: st) σ Q = ax_f (am_lv σ a) (fun q => am_ix j q.1 ∧ ax k_M_text 162 ls (.long (q.2 j.toNatClampNeg) :: st) σ Q) := ru_lald f_M_text_161 rfl
theorem f_M_text_162 : am_cd k_M_text 162 = some ((some .int), .lastore, (0, 0, 0, 0, 0, .null)) := rfl
theorem s_M_text_162 {ls : am_L} {st : List Value} {σ : am_H} {Q : Option Value → am_H → Prop} {a : Nat} {j : Int32} {x : Int64} : ax k_M_text 162 ls (.long x :: .int j :: .ref a :: st) σ Q = ax_f (am_lv σ a) (fun q => am_ix j q.1 ∧ a < am_top ∧ ax k_M_text 163 ls st (am_set σ a (am_la q.1 (vp_updL q.2 j.toNatClampNeg x))) Q) := ru_last f_M_text_162 rfl
theorem f_M_text_163 : am_cd k_M_text 163 = some ((some .int), .aload_n 0, (0, 0, 0, 0, 0, .null)) := rfl
theorem s_M_text_163 {a1 a2 : Option Value} {st : List Value} {σ : am_H} {Q : Option Value → am_H → Prop} {x : Nat} : ax k_M_text 163 [some (.ref x), a1, a2] st σ Q = ax k_M_text 164 [some (.ref x), a1, a2] (.ref x :: st) σ Q := ru_loc (q := (_, _)) f_M_text_163 rfl rfl rfl
theorem f_M_text_164 : am_cd k_M_text 164 = some ((some .int), .getfield 75, (11, 30, 947, 0, 3, .null)) := rfl
theorem s_M_text_164 {ls : am_L} {st : List Value} {σ : am_H} {Q : Option Value → am_H → Prop} {a : Nat} : ax k_M_text 164 ls (.ref a :: st) σ Q = ax_f (am_fld σ a 11 30) (fun v => ax k_M_text 167 ls (v :: st) σ Q) := ru_getf f_M_text_164 rfl
theorem f_M_text_167 : am_cd k_M_text 167 = some ((some .int), .iload_n 1, (0, 0, 0, 0, 0, .null)) := rfl
theorem s_M_text_167 {a0 a2 : Option Value} {st : List Value} {σ : am_H} {Q : Option Value → am_H → Prop} {x : Int32} : ax k_M_text 167 [a0, some (.int x), a2] st σ Q = ax k_M_text 168 [a0, some (.int x), a2] (.int x :: st) σ Q := ru_loc (q := (_, _)) f_M_text_167 rfl rfl rfl
theorem f_M_text_168 : am_cd k_M_text 168 = some ((some .int), .dup2, (0, 0, 0, 0, 0, .null)) := rfl
theorem s_M_text_168 {ls : am_L} {st : List Value} {σ : am_H} {Q : Option Value → am_H → Prop} {a : Nat} {x : Int32} : ax k_M_text 168 ls (.int x :: .ref a :: st) σ Q = ax k_M_text 169 ls (.int x :: .ref a :: .int x :: .ref a :: st) σ Q := ru_pure f_M_text_168 rfl rfl
theorem f_M_text_169 : am_cd k_M_text 169 = some ((some .int), .iaload, (0, 0, 0, 0, 0, .null)) := rfl
theorem s_M_text_169 {ls : am_L} {st : List Value} {σ : am_H} {Q : Option Value → am_H → Prop} {a : Nat} {j : Int32} : ax k_M_text 169 ls (.int j :: .ref a :: st) σ Q = ax_f (am_j σ a) (fun q => q.1 = 0 ∧ am_ix j q.2.1 ∧ ax k_M_text 170 ls (.int (q.2.2 j.toNatClampNeg) :: st) σ Q) := rv_iald f_M_text_169 rfl
theorem f_M_text_170 : am_cd k_M_text 170 = some ((some .int), .iconst 1, (0, 0, 0, 0, 0, .null)) := rfl
theorem s_M_text_170 {ls : am_L} {st : List Value} {σ : am_H} {Q : Option Value → am_H → Prop} : ax k_M_text 170 ls st σ Q = ax k_M_text 171 ls (.int 1 :: st) σ Q := ru_iconst f_M_text_170 (by decide +kernel) rfl
theorem f_M_text_171 : am_cd k_M_text 171 = some ((some .int), .iadd, (0, 0, 0, 0, 0, .null)) := rfl
theorem s_M_text_171 {ls : am_L} {st : List Value} {σ : am_H} {Q : Option Value → am_H → Prop} {x y : Int32} : ax k_M_text 171 ls (.int y :: .int x :: st) σ Q = ax k_M_text 172 ls (.int (x + y) :: st) σ Q := ru_pure f_M_text_171 rfl rfl
theorem f_M_text_172 : am_cd k_M_text 172 = some ((some .int), .iastore, (0, 0, 0, 0, 0, .null)) := rfl
theorem s_M_text_172 {ls : am_L} {st : List Value} {σ : am_H} {Q : Option Value → am_H → Prop} {a : Nat} {j x : Int32} : ax k_M_text 172 ls (.int x :: .int j :: .ref a :: st) σ Q = ax_f (am_j σ a) (fun q => q.1 = 0 ∧ am_ix j q.2.1 ∧ a < am_top ∧ ax k_M_text 173 ls st (am_set σ a (am_ia 0 q.2.1 (upd q.2.2 j.toNatClampNeg x))) Q) := rv_iast f_M_text_172 rfl
theorem f_M_text_173 : am_cd k_M_text 173 = some ((some .int), .aload_n 0, (0, 0, 0, 0, 0, .null)) := rfl
theorem s_M_text_173 {a1 a2 : Option Value} {st : List Value} {σ : am_H} {Q : Option Value → am_H → Prop} {x : Nat} : ax k_M_text 173 [some (.ref x), a1, a2] st σ Q = ax k_M_text 174 [some (.ref x), a1, a2] (.ref x :: st) σ Q := ru_loc (q := (_, _)) f_M_text_173 rfl rfl rfl
theorem f_M_text_174 : am_cd k_M_text 174 = some ((some .int), .getfield 75, (11, 30, 947, 0, 3, .null)) := rfl
theorem s_M_text_174 {ls : am_L} {st : List Value} {σ : am_H} {Q : Option Value → am_H → Prop} {a : Nat} : ax k_M_text 174 ls (.ref a :: st) σ Q = ax_f (am_fld σ a 11 30) (fun v => ax k_M_text 177 ls (v :: st) σ Q) := ru_getf f_M_text_174 rfl
theorem f_M_text_177 : am_cd k_M_text 177 = some ((some .int), .iload_n 1, (0, 0, 0, 0, 0, .null)) := rfl
theorem s_M_text_177 {a0 a2 : Option Value} {st : List Value} {σ : am_H} {Q : Option Value → am_H → Prop} {x : Int32} : ax k_M_text 177 [a0, some (.int x), a2] st σ Q = ax k_M_text 178 [a0, some (.int x), a2] (.int x :: st) σ Q := ru_loc (q := (_, _)) f_M_text_177 rfl rfl rfl
theorem f_M_text_178 : am_cd k_M_text 178 = some ((some .int), .iaload, (0, 0, 0, 0, 0, .null)) := rfl
theorem s_M_text_178 {ls : am_L} {st : List Value} {σ : am_H} {Q : Option Value → am_H → Prop} {a : Nat} {j : Int32} : ax k_M_text 178 ls (.int j :: .ref a :: st) σ Q = ax_f (am_j σ a) (fun q => q.1 = 0 ∧ am_ix j q.2.1 ∧ ax k_M_text 179 ls (.int (q.2.2 j.toNatClampNeg) :: st) σ Q) := rv_iald f_M_text_178 rfl
theorem f_M_text_179 : am_cd k_M_text 179 = some ((some .int), .ireturn, (0, 0, 0, 0, 0, .null)) := rfl
theorem s_M_text_179 {ls : am_L} {σ : am_H} {Q : Option Value → am_H → Prop} {v : Int32} : ax k_M_text 179 ls [.int v] σ Q = Q (some (.int v)) σ := ru_iretI f_M_text_179
theorem f_M_fault_0 : am_cd k_M_fault 0 = some ((some .int), .iload_n 1, (0, 0, 0, 0, 0, .null)) := rfl
theorem s_M_fault_0 {a0 : Option Value} {st : List Value} {σ : am_H} {Q : Option Value → am_H → Prop} {x : Int32} : ax k_M_fault 0 [a0, some (.int x)] st σ Q = ax k_M_fault 1 [a0, some (.int x)] (.int x :: st) σ Q := ru_loc (q := (_, _)) f_M_fault_0 rfl rfl rfl
theorem f_M_fault_1 : am_cd k_M_fault 1 = some ((some .int), .ifCond .ne 10, (11, 0, 0, 0, 0, .null)) := rfl
theorem s_M_fault_1 {ls : am_L} {st : List Value} {σ : am_H} {Q : Option Value → am_H → Prop} {x : Int32} : ax k_M_fault 1 ls (.int x :: st) σ Q = (if x = 0 then ax k_M_fault 4 ls st σ Q else ax k_M_fault 11 ls st σ Q) := (ru_if f_M_fault_1 rfl).trans (ru_i_ne _ _ _ _)
theorem f_M_fault_4 : am_cd k_M_fault 4 = some ((some .int), .aload_n 0, (0, 0, 0, 0, 0, .null)) := rfl
theorem s_M_fault_4 {a1 : Option Value} {st : List Value} {σ : am_H} {Q : Option Value → am_H → Prop} {x : Nat} : ax k_M_fault 4 [some (.ref x), a1] st σ Q = ax k_M_fault 5 [some (.ref x), a1] (.ref x :: st) σ Q := ru_loc (q := (_, _)) f_M_fault_4 rfl rfl rfl
theorem f_M_fault_5 : am_cd k_M_fault 5 = some ((some .int), .getfield 100, (11, 38, 955, 0, 0, .null)) := rfl
theorem s_M_fault_5 {ls : am_L} {st : List Value} {σ : am_H} {Q : Option Value → am_H → Prop} {a : Nat} : ax k_M_fault 5 ls (.ref a :: st) σ Q = ax_f (am_fld σ a 11 38) (fun v => ax k_M_fault 8 ls (v :: st) σ Q) := ru_getf f_M_fault_5 rfl
theorem f_M_fault_8 : am_cd k_M_fault 8 = some ((some .int), .goto 16, (24, 0, 0, 0, 0, .null)) := rfl
theorem s_M_fault_8 {ls : am_L} {st : List Value} {σ : am_H} {Q : Option Value → am_H → Prop} : ax k_M_fault 8 ls st σ Q = ax k_M_fault 24 ls st σ Q := ru_goto f_M_fault_8
theorem f_M_fault_11 : am_cd k_M_fault 11 = some ((some .int), .iload_n 1, (0, 0, 0, 0, 0, .null)) := rfl
theorem s_M_fault_11 {a0 : Option Value} {st : List Value} {σ : am_H} {Q : Option Value → am_H → Prop} {x : Int32} : ax k_M_fault 11 [a0, some (.int x)] st σ Q = ax k_M_fault 12 [a0, some (.int x)] (.int x :: st) σ Q := ru_loc (q := (_, _)) f_M_fault_11 rfl rfl rfl
theorem f_M_fault_12 : am_cd k_M_fault 12 = some ((some .int), .iconst 1, (0, 0, 0, 0, 0, .null)) := rfl
theorem s_M_fault_12 {ls : am_L} {st : List Value} {σ : am_H} {Q : Option Value → am_H → Prop} : ax k_M_fault 12 ls st σ Q = ax k_M_fault 13 ls (.int 1 :: st) σ Q := ru_iconst f_M_fault_12 (by decide +kernel) rfl
theorem f_M_fault_13 : am_cd k_M_fault 13 = some ((some .int), .if_icmp .ne 10, (23, 0, 0, 0, 0, .null)) := rfl
theorem s_M_fault_13 {ls : am_L} {st : List Value} {σ : am_H} {Q : Option Value → am_H → Prop} {x y : Int32} : ax k_M_fault 13 ls (.int y :: .int x :: st) σ Q = (if x = y then ax k_M_fault 16 ls st σ Q else ax k_M_fault 23 ls st σ Q) := (ru_icmp f_M_fault_13 rfl).trans (ru_i_ne _ _ _ _)
theorem f_M_fault_16 : am_cd k_M_fault 16 = some ((some .int), .aload_n 0, (0, 0, 0, 0, 0, .null)) := rfl
theorem s_M_fault_16 {a1 : Option Value} {st : List Value} {σ : am_H} {Q : Option Value → am_H → Prop} {x : Nat} : ax k_M_fault 16 [some (.ref x), a1] st σ Q = ax k_M_fault 17 [some (.ref x), a1] (.ref x :: st) σ Q := ru_loc (q := (_, _)) f_M_fault_16 rfl rfl rfl
theorem f_M_fault_17 : am_cd k_M_fault 17 = some ((some .int), .getfield 103, (11, 39, 956, 0, 0, .null)) := rfl
theorem s_M_fault_17 {ls : am_L} {st : List Value} {σ : am_H} {Q : Option Value → am_H → Prop} {a : Nat} : ax k_M_fault 17 ls (.ref a :: st) σ Q = ax_f (am_fld σ a 11 39) (fun v => ax k_M_fault 20 ls (v :: st) σ Q) := ru_getf f_M_fault_17 rfl
theorem f_M_fault_20 : am_cd k_M_fault 20 = some ((some .int), .goto 4, (24, 0, 0, 0, 0, .null)) := rfl
theorem s_M_fault_20 {ls : am_L} {st : List Value} {σ : am_H} {Q : Option Value → am_H → Prop} : ax k_M_fault 20 ls st σ Q = ax k_M_fault 24 ls st σ Q := ru_goto f_M_fault_20
theorem f_M_fault_23 : am_cd k_M_fault 23 = some ((some .int), .iconst (-1), (0, 0, 0, 0, 0, .null)) := rfl
theorem s_M_fault_23 {ls : am_L} {st : List Value} {σ : am_H} {Q : Option Value → am_H → Prop} : ax k_M_fault 23 ls st σ Q = ax k_M_fault 24 ls (.int (-1) :: st) σ Q := ru_iconst f_M_fault_23 (by decide +kernel) rfl
theorem f_M_fault_24 : am_cd k_M_fault 24 = some ((some .int), .ireturn, (0, 0, 0, 0, 0, .null)) := rfl
theorem s_M_fault_24 {ls : am_L} {σ : am_H} {Q : Option Value → am_H → Prop} {v : Int32} : ax k_M_fault 24 ls [.int v] σ Q = Q (some (.int v)) σ := ru_iretI f_M_fault_24
theorem f_M_tells_0 : am_cd k_M_tells 0 = some ((some .boolean), .aload_n 0, (0, 0, 0, 0, 0, .null)) := rfl
theorem s_M_tells_0 {a1 a2 : Option Value} {st : List Value} {σ : am_H} {Q : Option Value → am_H → Prop} {x : Nat} : ax k_M_tells 0 [some (.ref x), a1, a2] st σ Q = ax k_M_tells 1 [some (.ref x), a1, a2] (.ref x :: st) σ Q := ru_loc (q := (_, _)) f_M_tells_0 rfl rfl rfl
theorem f_M_tells_1 : am_cd k_M_tells 1 = some ((some .boolean), .getfield 78, (11, 31, 948, 0, 3, .null)) := rfl
theorem s_M_tells_1 {ls : am_L} {st : List Value} {σ : am_H} {Q : Option Value → am_H → Prop} {a : Nat} : ax k_M_tells 1 ls (.ref a :: st) σ Q = ax_f (am_fld σ a 11 31) (fun v => ax k_M_tells 4 ls (v :: st) σ Q) := ru_getf f_M_tells_1 rfl
theorem f_M_tells_4 : am_cd k_M_tells 4 = some ((some .boolean), .iload_n 1, (0, 0, 0, 0, 0, .null)) := rfl
theorem s_M_tells_4 {a0 a2 : Option Value} {st : List Value} {σ : am_H} {Q : Option Value → am_H → Prop} {x : Int32} : ax k_M_tells 4 [a0, some (.int x), a2] st σ Q = ax k_M_tells 5 [a0, some (.int x), a2] (.int x :: st) σ Q := ru_loc (q := (_, _)) f_M_tells_4 rfl rfl rfl
theorem f_M_tells_5 : am_cd k_M_tells 5 = some ((some .boolean), .iaload, (0, 0, 0, 0, 0, .null)) := rfl
theorem s_M_tells_5 {ls : am_L} {st : List Value} {σ : am_H} {Q : Option Value → am_H → Prop} {a : Nat} {j : Int32} : ax k_M_tells 5 ls (.int j :: .ref a :: st) σ Q = ax_f (am_j σ a) (fun q => q.1 = 0 ∧ am_ix j q.2.1 ∧ ax k_M_tells 6 ls (.int (q.2.2 j.toNatClampNeg) :: st) σ Q) := rv_iald f_M_tells_5 rfl
theorem f_M_tells_6 : am_cd k_M_tells 6 = some ((some .boolean), .iload_n 2, (0, 0, 0, 0, 0, .null)) := rfl
theorem s_M_tells_6 {a0 a1 : Option Value} {st : List Value} {σ : am_H} {Q : Option Value → am_H → Prop} {x : Int32} : ax k_M_tells 6 [a0, a1, some (.int x)] st σ Q = ax k_M_tells 7 [a0, a1, some (.int x)] (.int x :: st) σ Q := ru_loc (q := (_, _)) f_M_tells_6 rfl rfl rfl
theorem f_M_tells_7 : am_cd k_M_tells 7 = some ((some .boolean), .ishr, (0, 0, 0, 0, 0, .null)) := rfl
theorem s_M_tells_7 {ls : am_L} {st : List Value} {σ : am_H} {Q : Option Value → am_H → Prop} {x y : Int32} : ax k_M_tells 7 ls (.int y :: .int x :: st) σ Q = ax k_M_tells 8 ls (.int (x >>> (y &&& 31)) :: st) σ Q := ru_pure f_M_tells_7 rfl rfl
theorem f_M_tells_8 : am_cd k_M_tells 8 = some ((some .boolean), .iconst 1, (0, 0, 0, 0, 0, .null)) := rfl
theorem s_M_tells_8 {ls : am_L} {st : List Value} {σ : am_H} {Q : Option Value → am_H → Prop} : ax k_M_tells 8 ls st σ Q = ax k_M_tells 9 ls (.int 1 :: st) σ Q := ru_iconst f_M_tells_8 (by decide +kernel) rfl
theorem f_M_tells_9 : am_cd k_M_tells 9 = some ((some .boolean), .iand, (0, 0, 0, 0, 0, .null)) := rfl
theorem s_M_tells_9 {ls : am_L} {st : List Value} {σ : am_H} {Q : Option Value → am_H → Prop} {x y : Int32} : ax k_M_tells 9 ls (.int y :: .int x :: st) σ Q = ax k_M_tells 10 ls (.int (x &&& y) :: st) σ Q := ru_pure f_M_tells_9 rfl rfl
theorem f_M_tells_10 : am_cd k_M_tells 10 = some ((some .boolean), .iconst 1, (0, 0, 0, 0, 0, .null)) := rfl
theorem s_M_tells_10 {ls : am_L} {st : List Value} {σ : am_H} {Q : Option Value → am_H → Prop} : ax k_M_tells 10 ls st σ Q = ax k_M_tells 11 ls (.int 1 :: st) σ Q := ru_iconst f_M_tells_10 (by decide +kernel) rfl
theorem f_M_tells_11 : am_cd k_M_tells 11 = some ((some .boolean), .if_icmp .ne 7, (18, 0, 0, 0, 0, .null)) := rfl
theorem s_M_tells_11 {ls : am_L} {st : List Value} {σ : am_H} {Q : Option Value → am_H → Prop} {x y : Int32} : ax k_M_tells 11 ls (.int y :: .int x :: st) σ Q = (if x = y then ax k_M_tells 14 ls st σ Q else ax k_M_tells 18 ls st σ Q) := (ru_icmp f_M_tells_11 rfl).trans (ru_i_ne _ _ _ _)
theorem f_M_tells_14 : am_cd k_M_tells 14 = some ((some .boolean), .iconst 1, (0, 0, 0, 0, 0, .null)) := rfl
theorem s_M_tells_14 {ls : am_L} {st : List Value} {σ : am_H} {Q : Option Value → am_H → Prop} : ax k_M_tells 14 ls st σ Q = ax k_M_tells 15 ls (.int 1 :: st) σ Q := ru_iconst f_M_tells_14 (by decide +kernel) rfl
theorem f_M_tells_15 : am_cd k_M_tells 15 = some ((some .boolean), .goto 4, (19, 0, 0, 0, 0, .null)) := rfl
theorem s_M_tells_15 {ls : am_L} {st : List Value} {σ : am_H} {Q : Option Value → am_H → Prop} : ax k_M_tells 15 ls st σ Q = ax k_M_tells 19 ls st σ Q := ru_goto f_M_tells_15
theorem f_M_tells_18 : am_cd k_M_tells 18 = some ((some .boolean), .iconst 0, (0, 0, 0, 0, 0, .null)) := rfl
theorem s_M_tells_18 {ls : am_L} {st : List Value} {σ : am_H} {Q : Option Value → am_H → Prop} : ax k_M_tells 18 ls st σ Q = ax k_M_tells 19 ls (.int 0 :: st) σ Q := ru_iconst f_M_tells_18 (by decide +kernel) rfl
theorem f_M_tells_19 : am_cd k_M_tells 19 = some ((some .boolean), .ireturn, (0, 0, 0, 0, 0, .null)) := rfl
theorem s_M_tells_19 {ls : am_L} {σ : am_H} {Q : Option Value → am_H → Prop} {v : Int32} : ax k_M_tells 19 ls ([.int v]) σ Q = (am_nar .boolean v = true ∧ Q (some (.int v)) σ) := ru_iret f_M_tells_19
theorem f_M_lets_0 : am_cd k_M_lets 0 = some ((some .boolean), .aload_n 0, (0, 0, 0, 0, 0, .null)) := rfl
theorem s_M_lets_0 {a1 a2 a3 a4 a5 a6 : Option Value} {st : List Value} {σ : am_H} {Q : Option Value → am_H → Prop} {x : Nat} : ax k_M_lets 0 [some (.ref x), a1, a2, a3, a4, a5, a6] st σ Q = ax k_M_lets 1 [some (.ref x), a1, a2, a3, a4, a5, a6] (.ref x :: st) σ Q := ru_loc (q := (_, _)) f_M_lets_0 rfl rfl rfl
theorem f_M_lets_1 : am_cd k_M_lets 1 = some ((some .boolean), .iload_n 1, (0, 0, 0, 0, 0, .null)) := rfl
theorem s_M_lets_1 {a0 a2 a3 a4 a5 a6 : Option Value} {st : List Value} {σ : am_H} {Q : Option Value → am_H → Prop} {x : Int32} : ax k_M_lets 1 [a0, some (.int x), a2, a3, a4, a5, a6] st σ Q = ax k_M_lets 2 [a0, some (.int x), a2, a3, a4, a5, a6] (.int x :: st) σ Q := ru_loc (q := (_, _)) f_M_lets_1 rfl rfl rfl
theorem f_M_lets_2 : am_cd k_M_lets 2 = some ((some .boolean), .iconst 4, (0, 0, 0, 0, 0, .null)) := rfl
theorem s_M_lets_2 {ls : am_L} {st : List Value} {σ : am_H} {Q : Option Value → am_H → Prop} : ax k_M_lets 2 ls st σ Q = ax k_M_lets 3 ls (.int 4 :: st) σ Q := ru_iconst f_M_lets_2 (by decide +kernel) rfl
theorem f_M_lets_3 : am_cd k_M_lets 3 = some ((some .boolean), .invokevirtual 283, (158, 2, 1304, 0, 11, .null)) := rfl
theorem s_M_lets_3 {ls : am_L} {st : List Value} {σ : am_H} {Q : Option Value → am_H → Prop} {p0 : Int32} {p1 : Int32} {b : Nat} (hi : am_is σ b 11) (h8 : am_s8 st) : ax k_M_lets 3 ls (.int p1 :: .int p0 :: .ref b :: st) σ Q = ax k_M_tells 0 [some (.ref b), some (.int p0), some (.int p1)] [] σ (ax_k k_M_lets 6 ls st Q) := ru_vir (M' := rk_M_tells) f_M_lets_3 rfl rfl rfl rfl hi h8 rfl rfl rfl rfl rfl
theorem f_M_lets_6 : am_cd k_M_lets 6 = some ((some .boolean), .ifCond .eq 18, (24, 0, 0, 0, 0, .null)) := rfl
theorem s_M_lets_6 {ls : am_L} {st : List Value} {σ : am_H} {Q : Option Value → am_H → Prop} {x : Int32} : ax k_M_lets 6 ls (.int x :: st) σ Q = (if x = 0 then ax k_M_lets 24 ls st σ Q else ax k_M_lets 9 ls st σ Q) := (ru_if f_M_lets_6 rfl).trans (ru_i_eq _ _ _ _)
theorem f_M_lets_9 : am_cd k_M_lets 9 = some ((some .boolean), .aload_n 0, (0, 0, 0, 0, 0, .null)) := rfl
theorem s_M_lets_9 {a1 a2 a3 a4 a5 a6 : Option Value} {st : List Value} {σ : am_H} {Q : Option Value → am_H → Prop} {x : Nat} : ax k_M_lets 9 [some (.ref x), a1, a2, a3, a4, a5, a6] st σ Q = ax k_M_lets 10 [some (.ref x), a1, a2, a3, a4, a5, a6] (.ref x :: st) σ Q := ru_loc (q := (_, _)) f_M_lets_9 rfl rfl rfl
theorem f_M_lets_10 : am_cd k_M_lets 10 = some ((some .boolean), .getfield 81, (11, 32, 949, 0, 3, .null)) := rfl
theorem s_M_lets_10 {ls : am_L} {st : List Value} {σ : am_H} {Q : Option Value → am_H → Prop} {a : Nat} : ax k_M_lets 10 ls (.ref a :: st) σ Q = ax_f (am_fld σ a 11 32) (fun v => ax k_M_lets 13 ls (v :: st) σ Q) := ru_getf f_M_lets_10 rfl
theorem f_M_lets_13 : am_cd k_M_lets 13 = some ((some .boolean), .iload_n 1, (0, 0, 0, 0, 0, .null)) := rfl
theorem s_M_lets_13 {a0 a2 a3 a4 a5 a6 : Option Value} {st : List Value} {σ : am_H} {Q : Option Value → am_H → Prop} {x : Int32} : ax k_M_lets 13 [a0, some (.int x), a2, a3, a4, a5, a6] st σ Q = ax k_M_lets 14 [a0, some (.int x), a2, a3, a4, a5, a6] (.int x :: st) σ Q := ru_loc (q := (_, _)) f_M_lets_13 rfl rfl rfl
theorem f_M_lets_14 : am_cd k_M_lets 14 = some ((some .boolean), .iaload, (0, 0, 0, 0, 0, .null)) := rfl
theorem s_M_lets_14 {ls : am_L} {st : List Value} {σ : am_H} {Q : Option Value → am_H → Prop} {a : Nat} {j : Int32} : ax k_M_lets 14 ls (.int j :: .ref a :: st) σ Q = ax_f (am_j σ a) (fun q => q.1 = 0 ∧ am_ix j q.2.1 ∧ ax k_M_lets 15 ls (.int (q.2.2 j.toNatClampNeg) :: st) σ Q) := rv_iald f_M_lets_14 rfl
theorem f_M_lets_15 : am_cd k_M_lets 15 = some ((some .boolean), .iload_n 2, (0, 0, 0, 0, 0, .null)) := rfl
theorem s_M_lets_15 {a0 a1 a3 a4 a5 a6 : Option Value} {st : List Value} {σ : am_H} {Q : Option Value → am_H → Prop} {x : Int32} : ax k_M_lets 15 [a0, a1, some (.int x), a3, a4, a5, a6] st σ Q = ax k_M_lets 16 [a0, a1, some (.int x), a3, a4, a5, a6] (.int x :: st) σ Q := ru_loc (q := (_, _)) f_M_lets_15 rfl rfl rfl
theorem f_M_lets_16 : am_cd k_M_lets 16 = some ((some .boolean), .ishr, (0, 0, 0, 0, 0, .null)) := rfl
theorem s_M_lets_16 {ls : am_L} {st : List Value} {σ : am_H} {Q : Option Value → am_H → Prop} {x y : Int32} : ax k_M_lets 16 ls (.int y :: .int x :: st) σ Q = ax k_M_lets 17 ls (.int (x >>> (y &&& 31)) :: st) σ Q := ru_pure f_M_lets_16 rfl rfl
theorem f_M_lets_17 : am_cd k_M_lets 17 = some ((some .boolean), .iconst 1, (0, 0, 0, 0, 0, .null)) := rfl
theorem s_M_lets_17 {ls : am_L} {st : List Value} {σ : am_H} {Q : Option Value → am_H → Prop} : ax k_M_lets 17 ls st σ Q = ax k_M_lets 18 ls (.int 1 :: st) σ Q := ru_iconst f_M_lets_17 (by decide +kernel) rfl
theorem f_M_lets_18 : am_cd k_M_lets 18 = some ((some .boolean), .iand, (0, 0, 0, 0, 0, .null)) := rfl
theorem s_M_lets_18 {ls : am_L} {st : List Value} {σ : am_H} {Q : Option Value → am_H → Prop} {x y : Int32} : ax k_M_lets 18 ls (.int y :: .int x :: st) σ Q = ax k_M_lets 19 ls (.int (x &&& y) :: st) σ Q := ru_pure f_M_lets_18 rfl rfl
theorem f_M_lets_19 : am_cd k_M_lets 19 = some ((some .boolean), .ifCond .ne 5, (24, 0, 0, 0, 0, .null)) := rfl
theorem s_M_lets_19 {ls : am_L} {st : List Value} {σ : am_H} {Q : Option Value → am_H → Prop} {x : Int32} : ax k_M_lets 19 ls (.int x :: st) σ Q = (if x = 0 then ax k_M_lets 22 ls st σ Q else ax k_M_lets 24 ls st σ Q) := (ru_if f_M_lets_19 rfl).trans (ru_i_ne _ _ _ _)
theorem f_M_lets_22 : am_cd k_M_lets 22 = some ((some .boolean), .iconst 0, (0, 0, 0, 0, 0, .null)) := rfl
theorem s_M_lets_22 {ls : am_L} {st : List Value} {σ : am_H} {Q : Option Value → am_H → Prop} : ax k_M_lets 22 ls st σ Q = ax k_M_lets 23 ls (.int 0 :: st) σ Q := ru_iconst f_M_lets_22 (by decide +kernel) rfl
theorem f_M_lets_23 : am_cd k_M_lets 23 = some ((some .boolean), .ireturn, (0, 0, 0, 0, 0, .null)) := rfl
theorem s_M_lets_23 {ls : am_L} {σ : am_H} {Q : Option Value → am_H → Prop} {v : Int32} : ax k_M_lets 23 ls ([.int v]) σ Q = (am_nar .boolean v = true ∧ Q (some (.int v)) σ) := ru_iret f_M_lets_23
theorem f_M_lets_24 : am_cd k_M_lets 24 = some ((some .boolean), .aload_n 0, (0, 0, 0, 0, 0, .null)) := rfl
theorem s_M_lets_24 {a1 a2 a3 a4 a5 a6 : Option Value} {st : List Value} {σ : am_H} {Q : Option Value → am_H → Prop} {x : Nat} : ax k_M_lets 24 [some (.ref x), a1, a2, a3, a4, a5, a6] st σ Q = ax k_M_lets 25 [some (.ref x), a1, a2, a3, a4, a5, a6] (.ref x :: st) σ Q := ru_loc (q := (_, _)) f_M_lets_24 rfl rfl rfl
theorem f_M_lets_25 : am_cd k_M_lets 25 = some ((some .boolean), .iload_n 1, (0, 0, 0, 0, 0, .null)) := rfl
theorem s_M_lets_25 {a0 a2 a3 a4 a5 a6 : Option Value} {st : List Value} {σ : am_H} {Q : Option Value → am_H → Prop} {x : Int32} : ax k_M_lets 25 [a0, some (.int x), a2, a3, a4, a5, a6] st σ Q = ax k_M_lets 26 [a0, some (.int x), a2, a3, a4, a5, a6] (.int x :: st) σ Q := ru_loc (q := (_, _)) f_M_lets_25 rfl rfl rfl
theorem f_M_lets_26 : am_cd k_M_lets 26 = some ((some .boolean), .iconst 5, (0, 0, 0, 0, 0, .null)) := rfl
theorem s_M_lets_26 {ls : am_L} {st : List Value} {σ : am_H} {Q : Option Value → am_H → Prop} : ax k_M_lets 26 ls st σ Q = ax k_M_lets 27 ls (.int 5 :: st) σ Q := ru_iconst f_M_lets_26 (by decide +kernel) rfl
theorem f_M_lets_27 : am_cd k_M_lets 27 = some ((some .boolean), .invokevirtual 283, (158, 2, 1304, 0, 11, .null)) := rfl
theorem s_M_lets_27 {ls : am_L} {st : List Value} {σ : am_H} {Q : Option Value → am_H → Prop} {p0 : Int32} {p1 : Int32} {b : Nat} (hi : am_is σ b 11) (h8 : am_s8 st) : ax k_M_lets 27 ls (.int p1 :: .int p0 :: .ref b :: st) σ Q = ax k_M_tells 0 [some (.ref b), some (.int p0), some (.int p1)] [] σ (ax_k k_M_lets 30 ls st Q) := ru_vir (M' := rk_M_tells) f_M_lets_27 rfl rfl rfl rfl hi h8 rfl rfl rfl rfl rfl
theorem f_M_lets_30 : am_cd k_M_lets 30 = some ((some .boolean), .ifCond .eq 18, (48, 0, 0, 0, 0, .null)) := rfl
theorem s_M_lets_30 {ls : am_L} {st : List Value} {σ : am_H} {Q : Option Value → am_H → Prop} {x : Int32} : ax k_M_lets 30 ls (.int x :: st) σ Q = (if x = 0 then ax k_M_lets 48 ls st σ Q else ax k_M_lets 33 ls st σ Q) := (ru_if f_M_lets_30 rfl).trans (ru_i_eq _ _ _ _)
theorem f_M_lets_33 : am_cd k_M_lets 33 = some ((some .boolean), .aload_n 0, (0, 0, 0, 0, 0, .null)) := rfl
theorem s_M_lets_33 {a1 a2 a3 a4 a5 a6 : Option Value} {st : List Value} {σ : am_H} {Q : Option Value → am_H → Prop} {x : Nat} : ax k_M_lets 33 [some (.ref x), a1, a2, a3, a4, a5, a6] st σ Q = ax k_M_lets 34 [some (.ref x), a1, a2, a3, a4, a5, a6] (.ref x :: st) σ Q := ru_loc (q := (_, _)) f_M_lets_33 rfl rfl rfl
theorem f_M_lets_34 : am_cd k_M_lets 34 = some ((some .boolean), .getfield 84, (11, 33, 950, 0, 3, .null)) := rfl
theorem s_M_lets_34 {ls : am_L} {st : List Value} {σ : am_H} {Q : Option Value → am_H → Prop} {a : Nat} : ax k_M_lets 34 ls (.ref a :: st) σ Q = ax_f (am_fld σ a 11 33) (fun v => ax k_M_lets 37 ls (v :: st) σ Q) := ru_getf f_M_lets_34 rfl
theorem f_M_lets_37 : am_cd k_M_lets 37 = some ((some .boolean), .iload_n 1, (0, 0, 0, 0, 0, .null)) := rfl
theorem s_M_lets_37 {a0 a2 a3 a4 a5 a6 : Option Value} {st : List Value} {σ : am_H} {Q : Option Value → am_H → Prop} {x : Int32} : ax k_M_lets 37 [a0, some (.int x), a2, a3, a4, a5, a6] st σ Q = ax k_M_lets 38 [a0, some (.int x), a2, a3, a4, a5, a6] (.int x :: st) σ Q := ru_loc (q := (_, _)) f_M_lets_37 rfl rfl rfl
theorem f_M_lets_38 : am_cd k_M_lets 38 = some ((some .boolean), .iaload, (0, 0, 0, 0, 0, .null)) := rfl
theorem s_M_lets_38 {ls : am_L} {st : List Value} {σ : am_H} {Q : Option Value → am_H → Prop} {a : Nat} {j : Int32} : ax k_M_lets 38 ls (.int j :: .ref a :: st) σ Q = ax_f (am_j σ a) (fun q => q.1 = 0 ∧ am_ix j q.2.1 ∧ ax k_M_lets 39 ls (.int (q.2.2 j.toNatClampNeg) :: st) σ Q) := rv_iald f_M_lets_38 rfl
theorem f_M_lets_39 : am_cd k_M_lets 39 = some ((some .boolean), .iload_n 3, (0, 0, 0, 0, 0, .null)) := rfl
theorem s_M_lets_39 {a0 a1 a2 a4 a5 a6 : Option Value} {st : List Value} {σ : am_H} {Q : Option Value → am_H → Prop} {x : Int32} : ax k_M_lets 39 [a0, a1, a2, some (.int x), a4, a5, a6] st σ Q = ax k_M_lets 40 [a0, a1, a2, some (.int x), a4, a5, a6] (.int x :: st) σ Q := ru_loc (q := (_, _)) f_M_lets_39 rfl rfl rfl
theorem f_M_lets_40 : am_cd k_M_lets 40 = some ((some .boolean), .ishr, (0, 0, 0, 0, 0, .null)) := rfl
theorem s_M_lets_40 {ls : am_L} {st : List Value} {σ : am_H} {Q : Option Value → am_H → Prop} {x y : Int32} : ax k_M_lets 40 ls (.int y :: .int x :: st) σ Q = ax k_M_lets 41 ls (.int (x >>> (y &&& 31)) :: st) σ Q := ru_pure f_M_lets_40 rfl rfl
theorem f_M_lets_41 : am_cd k_M_lets 41 = some ((some .boolean), .iconst 1, (0, 0, 0, 0, 0, .null)) := rfl
theorem s_M_lets_41 {ls : am_L} {st : List Value} {σ : am_H} {Q : Option Value → am_H → Prop} : ax k_M_lets 41 ls st σ Q = ax k_M_lets 42 ls (.int 1 :: st) σ Q := ru_iconst f_M_lets_41 (by decide +kernel) rfl
theorem f_M_lets_42 : am_cd k_M_lets 42 = some ((some .boolean), .iand, (0, 0, 0, 0, 0, .null)) := rfl
theorem s_M_lets_42 {ls : am_L} {st : List Value} {σ : am_H} {Q : Option Value → am_H → Prop} {x y : Int32} : ax k_M_lets 42 ls (.int y :: .int x :: st) σ Q = ax k_M_lets 43 ls (.int (x &&& y) :: st) σ Q := ru_pure f_M_lets_42 rfl rfl
theorem f_M_lets_43 : am_cd k_M_lets 43 = some ((some .boolean), .ifCond .ne 5, (48, 0, 0, 0, 0, .null)) := rfl
theorem s_M_lets_43 {ls : am_L} {st : List Value} {σ : am_H} {Q : Option Value → am_H → Prop} {x : Int32} : ax k_M_lets 43 ls (.int x :: st) σ Q = (if x = 0 then ax k_M_lets 46 ls st σ Q else ax k_M_lets 48 ls st σ Q) := (ru_if f_M_lets_43 rfl).trans (ru_i_ne _ _ _ _)
theorem f_M_lets_46 : am_cd k_M_lets 46 = some ((some .boolean), .iconst 0, (0, 0, 0, 0, 0, .null)) := rfl
theorem s_M_lets_46 {ls : am_L} {st : List Value} {σ : am_H} {Q : Option Value → am_H → Prop} : ax k_M_lets 46 ls st σ Q = ax k_M_lets 47 ls (.int 0 :: st) σ Q := ru_iconst f_M_lets_46 (by decide +kernel) rfl
theorem f_M_lets_47 : am_cd k_M_lets 47 = some ((some .boolean), .ireturn, (0, 0, 0, 0, 0, .null)) := rfl
theorem s_M_lets_47 {ls : am_L} {σ : am_H} {Q : Option Value → am_H → Prop} {v : Int32} : ax k_M_lets 47 ls ([.int v]) σ Q = (am_nar .boolean v = true ∧ Q (some (.int v)) σ) := ru_iret f_M_lets_47
theorem f_M_lets_48 : am_cd k_M_lets 48 = some ((some .boolean), .aload_n 0, (0, 0, 0, 0, 0, .null)) := rfl
theorem s_M_lets_48 {a1 a2 a3 a4 a5 a6 : Option Value} {st : List Value} {σ : am_H} {Q : Option Value → am_H → Prop} {x : Nat} : ax k_M_lets 48 [some (.ref x), a1, a2, a3, a4, a5, a6] st σ Q = ax k_M_lets 49 [some (.ref x), a1, a2, a3, a4, a5, a6] (.ref x :: st) σ Q := ru_loc (q := (_, _)) f_M_lets_48 rfl rfl rfl
theorem f_M_lets_49 : am_cd k_M_lets 49 = some ((some .boolean), .iload_n 1, (0, 0, 0, 0, 0, .null)) := rfl
theorem s_M_lets_49 {a0 a2 a3 a4 a5 a6 : Option Value} {st : List Value} {σ : am_H} {Q : Option Value → am_H → Prop} {x : Int32} : ax k_M_lets 49 [a0, some (.int x), a2, a3, a4, a5, a6] st σ Q = ax k_M_lets 50 [a0, some (.int x), a2, a3, a4, a5, a6] (.int x :: st) σ Q := ru_loc (q := (_, _)) f_M_lets_49 rfl rfl rfl
theorem f_M_lets_50 : am_cd k_M_lets 50 = some ((some .boolean), .bipush 6, (0, 0, 0, 0, 0, .null)) := rfl
theorem s_M_lets_50 {ls : am_L} {st : List Value} {σ : am_H} {Q : Option Value → am_H → Prop} : ax k_M_lets 50 ls st σ Q = ax k_M_lets 52 ls (.int 6 :: st) σ Q := ru_bipush f_M_lets_50 (by decide +kernel) rfl
theorem f_M_lets_52 : am_cd k_M_lets 52 = some ((some .boolean), .invokevirtual 283, (158, 2, 1304, 0, 11, .null)) := rfl
theorem s_M_lets_52 {ls : am_L} {st : List Value} {σ : am_H} {Q : Option Value → am_H → Prop} {p0 : Int32} {p1 : Int32} {b : Nat} (hi : am_is σ b 11) (h8 : am_s8 st) : ax k_M_lets 52 ls (.int p1 :: .int p0 :: .ref b :: st) σ Q = ax k_M_tells 0 [some (.ref b), some (.int p0), some (.int p1)] [] σ (ax_k k_M_lets 55 ls st Q) := ru_vir (M' := rk_M_tells) f_M_lets_52 rfl rfl rfl rfl hi h8 rfl rfl rfl rfl rfl
theorem f_M_lets_55 : am_cd k_M_lets 55 = some ((some .boolean), .ifCond .eq 27, (82, 0, 0, 0, 0, .null)) := rfl
theorem s_M_lets_55 {ls : am_L} {st : List Value} {σ : am_H} {Q : Option Value → am_H → Prop} {x : Int32} : ax k_M_lets 55 ls (.int x :: st) σ Q = (if x = 0 then ax k_M_lets 82 ls st σ Q else ax k_M_lets 58 ls st σ Q) := (ru_if f_M_lets_55 rfl).trans (ru_i_eq _ _ _ _)
theorem f_M_lets_58 : am_cd k_M_lets 58 = some ((some .boolean), .aload_n 0, (0, 0, 0, 0, 0, .null)) := rfl
theorem s_M_lets_58 {a1 a2 a3 a4 a5 a6 : Option Value} {st : List Value} {σ : am_H} {Q : Option Value → am_H → Prop} {x : Nat} : ax k_M_lets 58 [some (.ref x), a1, a2, a3, a4, a5, a6] st σ Q = ax k_M_lets 59 [some (.ref x), a1, a2, a3, a4, a5, a6] (.ref x :: st) σ Q := ru_loc (q := (_, _)) f_M_lets_58 rfl rfl rfl
theorem f_M_lets_59 : am_cd k_M_lets 59 = some ((some .boolean), .getfield 161, (11, 0, 917, 0, 0, .null)) := rfl
theorem s_M_lets_59 {ls : am_L} {st : List Value} {σ : am_H} {Q : Option Value → am_H → Prop} {a : Nat} : ax k_M_lets 59 ls (.ref a :: st) σ Q = ax_f (am_fld σ a 11 0) (fun v => ax k_M_lets 62 ls (v :: st) σ Q) := ru_getf f_M_lets_59 rfl
theorem f_M_lets_62 : am_cd k_M_lets 62 = some ((some .boolean), .aload_n 0, (0, 0, 0, 0, 0, .null)) := rfl
theorem s_M_lets_62 {a1 a2 a3 a4 a5 a6 : Option Value} {st : List Value} {σ : am_H} {Q : Option Value → am_H → Prop} {x : Nat} : ax k_M_lets 62 [some (.ref x), a1, a2, a3, a4, a5, a6] st σ Q = ax k_M_lets 63 [some (.ref x), a1, a2, a3, a4, a5, a6] (.ref x :: st) σ Q := ru_loc (q := (_, _)) f_M_lets_62 rfl rfl rfl
theorem f_M_lets_63 : am_cd k_M_lets 63 = some ((some .boolean), .getfield 87, (11, 34, 951, 0, 3, .null)) := rfl
theorem s_M_lets_63 {ls : am_L} {st : List Value} {σ : am_H} {Q : Option Value → am_H → Prop} {a : Nat} : ax k_M_lets 63 ls (.ref a :: st) σ Q = ax_f (am_fld σ a 11 34) (fun v => ax k_M_lets 66 ls (v :: st) σ Q) := ru_getf f_M_lets_63 rfl
theorem f_M_lets_66 : am_cd k_M_lets 66 = some ((some .boolean), .iload_n 1, (0, 0, 0, 0, 0, .null)) := rfl
theorem s_M_lets_66 {a0 a2 a3 a4 a5 a6 : Option Value} {st : List Value} {σ : am_H} {Q : Option Value → am_H → Prop} {x : Int32} : ax k_M_lets 66 [a0, some (.int x), a2, a3, a4, a5, a6] st σ Q = ax k_M_lets 67 [a0, some (.int x), a2, a3, a4, a5, a6] (.int x :: st) σ Q := ru_loc (q := (_, _)) f_M_lets_66 rfl rfl rfl
theorem f_M_lets_67 : am_cd k_M_lets 67 = some ((some .boolean), .iaload, (0, 0, 0, 0, 0, .null)) := rfl
theorem s_M_lets_67 {ls : am_L} {st : List Value} {σ : am_H} {Q : Option Value → am_H → Prop} {a : Nat} {j : Int32} : ax k_M_lets 67 ls (.int j :: .ref a :: st) σ Q = ax_f (am_j σ a) (fun q => q.1 = 0 ∧ am_ix j q.2.1 ∧ ax k_M_lets 68 ls (.int (q.2.2 j.toNatClampNeg) :: st) σ Q) := rv_iald f_M_lets_67 rfl
theorem f_M_lets_68 : am_cd k_M_lets 68 = some ((some .boolean), .aload_n 0, (0, 0, 0, 0, 0, .null)) := rfl
theorem s_M_lets_68 {a1 a2 a3 a4 a5 a6 : Option Value} {st : List Value} {σ : am_H} {Q : Option Value → am_H → Prop} {x : Nat} : ax k_M_lets 68 [some (.ref x), a1, a2, a3, a4, a5, a6] st σ Q = ax k_M_lets 69 [some (.ref x), a1, a2, a3, a4, a5, a6] (.ref x :: st) σ Q := ru_loc (q := (_, _)) f_M_lets_68 rfl rfl rfl
theorem f_M_lets_69 : am_cd k_M_lets 69 = some ((some .boolean), .getfield 90, (11, 35, 952, 0, 3, .null)) := rfl
theorem s_M_lets_69 {ls : am_L} {st : List Value} {σ : am_H} {Q : Option Value → am_H → Prop} {a : Nat} : ax k_M_lets 69 ls (.ref a :: st) σ Q = ax_f (am_fld σ a 11 35) (fun v => ax k_M_lets 72 ls (v :: st) σ Q) := ru_getf f_M_lets_69 rfl
theorem f_M_lets_72 : am_cd k_M_lets 72 = some ((some .boolean), .iload_n 1, (0, 0, 0, 0, 0, .null)) := rfl
theorem s_M_lets_72 {a0 a2 a3 a4 a5 a6 : Option Value} {st : List Value} {σ : am_H} {Q : Option Value → am_H → Prop} {x : Int32} : ax k_M_lets 72 [a0, some (.int x), a2, a3, a4, a5, a6] st σ Q = ax k_M_lets 73 [a0, some (.int x), a2, a3, a4, a5, a6] (.int x :: st) σ Q := ru_loc (q := (_, _)) f_M_lets_72 rfl rfl rfl
theorem f_M_lets_73 : am_cd k_M_lets 73 = some ((some .boolean), .iaload, (0, 0, 0, 0, 0, .null)) := rfl
theorem s_M_lets_73 {ls : am_L} {st : List Value} {σ : am_H} {Q : Option Value → am_H → Prop} {a : Nat} {j : Int32} : ax k_M_lets 73 ls (.int j :: .ref a :: st) σ Q = ax_f (am_j σ a) (fun q => q.1 = 0 ∧ am_ix j q.2.1 ∧ ax k_M_lets 74 ls (.int (q.2.2 j.toNatClampNeg) :: st) σ Q) := rv_iald f_M_lets_73 rfl
theorem f_M_lets_74 : am_cd k_M_lets 74 = some ((some .boolean), .invokestatic 154, (113, 3, 1110, 0, 11, .null)) := rfl
theorem s_M_lets_74 {ls : am_L} {st : List Value} {σ : am_H} {Q : Option Value → am_H → Prop} {p0 : Int32} {p1 : Int32} {p2 : Int32} (h8 : am_s8 st) : ax k_M_lets 74 ls (.int p2 :: .int p1 :: .int p0 :: st) σ Q = ax k_M_isIn 0 [some (.int p0), some (.int p1), some (.int p2)] [] σ (ax_k k_M_lets 77 ls st Q) := ru_sta (M' := rk_M_isIn) f_M_lets_74 rfl (by decide) rfl (by simp) rfl h8 rfl rfl rfl rfl rfl
theorem f_M_lets_77 : am_cd k_M_lets 77 = some ((some .boolean), .ifCond .ne 5, (82, 0, 0, 0, 0, .null)) := rfl
theorem s_M_lets_77 {ls : am_L} {st : List Value} {σ : am_H} {Q : Option Value → am_H → Prop} {x : Int32} : ax k_M_lets 77 ls (.int x :: st) σ Q = (if x = 0 then ax k_M_lets 80 ls st σ Q else ax k_M_lets 82 ls st σ Q) := (ru_if f_M_lets_77 rfl).trans (ru_i_ne _ _ _ _)
theorem f_M_lets_80 : am_cd k_M_lets 80 = some ((some .boolean), .iconst 0, (0, 0, 0, 0, 0, .null)) := rfl
theorem s_M_lets_80 {ls : am_L} {st : List Value} {σ : am_H} {Q : Option Value → am_H → Prop} : ax k_M_lets 80 ls st σ Q = ax k_M_lets 81 ls (.int 0 :: st) σ Q := ru_iconst f_M_lets_80 (by decide +kernel) rfl
theorem f_M_lets_81 : am_cd k_M_lets 81 = some ((some .boolean), .ireturn, (0, 0, 0, 0, 0, .null)) := rfl
theorem s_M_lets_81 {ls : am_L} {σ : am_H} {Q : Option Value → am_H → Prop} {v : Int32} : ax k_M_lets 81 ls ([.int v]) σ Q = (am_nar .boolean v = true ∧ Q (some (.int v)) σ) := ru_iret f_M_lets_81
theorem f_M_lets_82 : am_cd k_M_lets 82 = some ((some .boolean), .aload_n 0, (0, 0, 0, 0, 0, .null)) := rfl
theorem s_M_lets_82 {a1 a2 a3 a4 a5 a6 : Option Value} {st : List Value} {σ : am_H} {Q : Option Value → am_H → Prop} {x : Nat} : ax k_M_lets 82 [some (.ref x), a1, a2, a3, a4, a5, a6] st σ Q = ax k_M_lets 83 [some (.ref x), a1, a2, a3, a4, a5, a6] (.ref x :: st) σ Q := ru_loc (q := (_, _)) f_M_lets_82 rfl rfl rfl
theorem f_M_lets_83 : am_cd k_M_lets 83 = some ((some .boolean), .iload_n 1, (0, 0, 0, 0, 0, .null)) := rfl
theorem s_M_lets_83 {a0 a2 a3 a4 a5 a6 : Option Value} {st : List Value} {σ : am_H} {Q : Option Value → am_H → Prop} {x : Int32} : ax k_M_lets 83 [a0, some (.int x), a2, a3, a4, a5, a6] st σ Q = ax k_M_lets 84 [a0, some (.int x), a2, a3, a4, a5, a6] (.int x :: st) σ Q := ru_loc (q := (_, _)) f_M_lets_83 rfl rfl rfl
theorem f_M_lets_84 : am_cd k_M_lets 84 = some ((some .boolean), .bipush 7, (0, 0, 0, 0, 0, .null)) := rfl
theorem s_M_lets_84 {ls : am_L} {st : List Value} {σ : am_H} {Q : Option Value → am_H → Prop} : ax k_M_lets 84 ls st σ Q = ax k_M_lets 86 ls (.int 7 :: st) σ Q := ru_bipush f_M_lets_84 (by decide +kernel) rfl
theorem f_M_lets_86 : am_cd k_M_lets 86 = some ((some .boolean), .invokevirtual 283, (158, 2, 1304, 0, 11, .null)) := rfl
theorem s_M_lets_86 {ls : am_L} {st : List Value} {σ : am_H} {Q : Option Value → am_H → Prop} {p0 : Int32} {p1 : Int32} {b : Nat} (hi : am_is σ b 11) (h8 : am_s8 st) : ax k_M_lets 86 ls (.int p1 :: .int p0 :: .ref b :: st) σ Q = ax k_M_tells 0 [some (.ref b), some (.int p0), some (.int p1)] [] σ (ax_k k_M_lets 89 ls st Q) := ru_vir (M' := rk_M_tells) f_M_lets_86 rfl rfl rfl rfl hi h8 rfl rfl rfl rfl rfl
theorem f_M_lets_89 : am_cd k_M_lets 89 = some ((some .boolean), .ifCond .eq 16, (105, 0, 0, 0, 0, .null)) := rfl
theorem s_M_lets_89 {ls : am_L} {st : List Value} {σ : am_H} {Q : Option Value → am_H → Prop} {x : Int32} : ax k_M_lets 89 ls (.int x :: st) σ Q = (if x = 0 then ax k_M_lets 105 ls st σ Q else ax k_M_lets 92 ls st σ Q) := (ru_if f_M_lets_89 rfl).trans (ru_i_eq _ _ _ _)
theorem f_M_lets_92 : am_cd k_M_lets 92 = some ((some .boolean), .iload 4, (0, 0, 0, 0, 0, .null)) := rfl
theorem s_M_lets_92 {a0 a1 a2 a3 a5 a6 : Option Value} {st : List Value} {σ : am_H} {Q : Option Value → am_H → Prop} {x : Int32} : ax k_M_lets 92 [a0, a1, a2, a3, some (.int x), a5, a6] st σ Q = ax k_M_lets 94 [a0, a1, a2, a3, some (.int x), a5, a6] (.int x :: st) σ Q := ru_loc (q := (_, _)) f_M_lets_92 rfl rfl rfl
theorem f_M_lets_94 : am_cd k_M_lets 94 = some ((some .boolean), .aload_n 0, (0, 0, 0, 0, 0, .null)) := rfl
theorem s_M_lets_94 {a1 a2 a3 a4 a5 a6 : Option Value} {st : List Value} {σ : am_H} {Q : Option Value → am_H → Prop} {x : Nat} : ax k_M_lets 94 [some (.ref x), a1, a2, a3, a4, a5, a6] st σ Q = ax k_M_lets 95 [some (.ref x), a1, a2, a3, a4, a5, a6] (.ref x :: st) σ Q := ru_loc (q := (_, _)) f_M_lets_94 rfl rfl rfl
theorem f_M_lets_95 : am_cd k_M_lets 95 = some ((some .boolean), .getfield 93, (11, 36, 953, 0, 3, .null)) := rfl
theorem s_M_lets_95 {ls : am_L} {st : List Value} {σ : am_H} {Q : Option Value → am_H → Prop} {a : Nat} : ax k_M_lets 95 ls (.ref a :: st) σ Q = ax_f (am_fld σ a 11 36) (fun v => ax k_M_lets 98 ls (v :: st) σ Q) := ru_getf f_M_lets_95 rfl
theorem f_M_lets_98 : am_cd k_M_lets 98 = some ((some .boolean), .iload_n 1, (0, 0, 0, 0, 0, .null)) := rfl
theorem s_M_lets_98 {a0 a2 a3 a4 a5 a6 : Option Value} {st : List Value} {σ : am_H} {Q : Option Value → am_H → Prop} {x : Int32} : ax k_M_lets 98 [a0, some (.int x), a2, a3, a4, a5, a6] st σ Q = ax k_M_lets 99 [a0, some (.int x), a2, a3, a4, a5, a6] (.int x :: st) σ Q := ru_loc (q := (_, _)) f_M_lets_98 rfl rfl rfl
theorem f_M_lets_99 : am_cd k_M_lets 99 = some ((some .boolean), .iaload, (0, 0, 0, 0, 0, .null)) := rfl
theorem s_M_lets_99 {ls : am_L} {st : List Value} {σ : am_H} {Q : Option Value → am_H → Prop} {a : Nat} {j : Int32} : ax k_M_lets 99 ls (.int j :: .ref a :: st) σ Q = ax_f (am_j σ a) (fun q => q.1 = 0 ∧ am_ix j q.2.1 ∧ ax k_M_lets 100 ls (.int (q.2.2 j.toNatClampNeg) :: st) σ Q) := rv_iald f_M_lets_99 rfl
theorem f_M_lets_100 : am_cd k_M_lets 100 = some ((some .boolean), .if_icmp .le 5, (105, 0, 0, 0, 0, .null)) := rfl
theorem s_M_lets_100 {ls : am_L} {st : List Value} {σ : am_H} {Q : Option Value → am_H → Prop} {x y : Int32} : ax k_M_lets 100 ls (.int y :: .int x :: st) σ Q = (if y < x then ax k_M_lets 103 ls st σ Q else ax k_M_lets 105 ls st σ Q) := (ru_icmp f_M_lets_100 rfl).trans (ru_i_le _ _ _ _)
theorem f_M_lets_103 : am_cd k_M_lets 103 = some ((some .boolean), .iconst 0, (0, 0, 0, 0, 0, .null)) := rfl
theorem s_M_lets_103 {ls : am_L} {st : List Value} {σ : am_H} {Q : Option Value → am_H → Prop} : ax k_M_lets 103 ls st σ Q = ax k_M_lets 104 ls (.int 0 :: st) σ Q := ru_iconst f_M_lets_103 (by decide +kernel) rfl
theorem f_M_lets_104 : am_cd k_M_lets 104 = some ((some .boolean), .ireturn, (0, 0, 0, 0, 0, .null)) := rfl
theorem s_M_lets_104 {ls : am_L} {σ : am_H} {Q : Option Value → am_H → Prop} {v : Int32} : ax k_M_lets 104 ls ([.int v]) σ Q = (am_nar .boolean v = true ∧ Q (some (.int v)) σ) := ru_iret f_M_lets_104
theorem f_M_lets_105 : am_cd k_M_lets 105 = some ((some .boolean), .iconst 0, (0, 0, 0, 0, 0, .null)) := rfl
theorem s_M_lets_105 {ls : am_L} {st : List Value} {σ : am_H} {Q : Option Value → am_H → Prop} : ax k_M_lets 105 ls st σ Q = ax k_M_lets 106 ls (.int 0 :: st) σ Q := ru_iconst f_M_lets_105 (by decide +kernel) rfl
theorem f_M_lets_106 : am_cd k_M_lets 106 = some ((some .boolean), .istore 6, (0, 0, 0, 0, 0, .null)) := rfl
theorem s_M_lets_106 {a0 a1 a2 a3 a4 a5 a6 : Option Value} {st : List Value} {σ : am_H} {Q : Option Value → am_H → Prop} {x : Int32} (hc : am_c2 a5 = false) : ax k_M_lets 106 [a0, a1, a2, a3, a4, a5, a6] (.int x :: st) σ Q = ax k_M_lets 108 [a0, a1, a2, a3, a4, a5, some (.int x)] st σ Q := ru_istore f_M_lets_106 (Nat.le_of_ble_eq_true rfl) (ru_st1 (Nat.le_of_ble_eq_true rfl) (am_clr_c2 hc rfl) rfl) rfl
theorem f_M_lets_108 : am_cd k_M_lets 108 = some ((some .boolean), .iload 6, (0, 0, 0, 0, 0, .null)) := rfl
theorem s_M_lets_108 {a0 a1 a2 a3 a4 a5 : Option Value} {st : List Value} {σ : am_H} {Q : Option Value → am_H → Prop} {x : Int32} : ax k_M_lets 108 [a0, a1, a2, a3, a4, a5, some (.int x)] st σ Q = ax k_M_lets 110 [a0, a1, a2, a3, a4, a5, some (.int x)] (.int x :: st) σ Q := ru_loc (q := (_, _)) f_M_lets_108 rfl rfl rfl
theorem f_M_lets_110 : am_cd k_M_lets 110 = some ((some .boolean), .aload_n 0, (0, 0, 0, 0, 0, .null)) := rfl
theorem s_M_lets_110 {a1 a2 a3 a4 a5 a6 : Option Value} {st : List Value} {σ : am_H} {Q : Option Value → am_H → Prop} {x : Nat} : ax k_M_lets 110 [some (.ref x), a1, a2, a3, a4, a5, a6] st σ Q = ax k_M_lets 111 [some (.ref x), a1, a2, a3, a4, a5, a6] (.ref x :: st) σ Q := ru_loc (q := (_, _)) f_M_lets_110 rfl rfl rfl
theorem f_M_lets_111 : am_cd k_M_lets 111 = some ((some .boolean), .getfield 151, (11, 1, 918, 0, 0, .null)) := rfl
theorem s_M_lets_111 {ls : am_L} {st : List Value} {σ : am_H} {Q : Option Value → am_H → Prop} {a : Nat} : ax k_M_lets 111 ls (.ref a :: st) σ Q = ax_f (am_fld σ a 11 1) (fun v => ax k_M_lets 114 ls (v :: st) σ Q) := ru_getf f_M_lets_111 rfl
theorem f_M_lets_114 : am_cd k_M_lets 114 = some ((some .boolean), .if_icmp .ge 47, (161, 0, 0, 0, 0, .null)) := rfl
theorem s_M_lets_114 {ls : am_L} {st : List Value} {σ : am_H} {Q : Option Value → am_H → Prop} {x y : Int32} : ax k_M_lets 114 ls (.int y :: .int x :: st) σ Q = (if x < y then ax k_M_lets 117 ls st σ Q else ax k_M_lets 161 ls st σ Q) := (ru_icmp f_M_lets_114 rfl).trans (ru_i_ge _ _ _ _)
theorem f_M_lets_117 : am_cd k_M_lets 117 = some ((some .boolean), .iload 5, (0, 0, 0, 0, 0, .null)) := rfl
theorem s_M_lets_117 {a0 a1 a2 a3 a4 a6 : Option Value} {st : List Value} {σ : am_H} {Q : Option Value → am_H → Prop} {x : Int32} : ax k_M_lets 117 [a0, a1, a2, a3, a4, some (.int x), a6] st σ Q = ax k_M_lets 119 [a0, a1, a2, a3, a4, some (.int x), a6] (.int x :: st) σ Q := ru_loc (q := (_, _)) f_M_lets_117 rfl rfl rfl
theorem f_M_lets_119 : am_cd k_M_lets 119 = some ((some .boolean), .ifCond .lt 42, (161, 0, 0, 0, 0, .null)) := rfl
theorem s_M_lets_119 {ls : am_L} {st : List Value} {σ : am_H} {Q : Option Value → am_H → Prop} {x : Int32} : ax k_M_lets 119 ls (.int x :: st) σ Q = (if x < 0 then ax k_M_lets 161 ls st σ Q else ax k_M_lets 122 ls st σ Q) := (ru_if f_M_lets_119 rfl).trans (ru_i_lt _ _ _ _)
theorem f_M_lets_122 : am_cd k_M_lets 122 = some ((some .boolean), .aload_n 0, (0, 0, 0, 0, 0, .null)) := rfl
theorem s_M_lets_122 {a1 a2 a3 a4 a5 a6 : Option Value} {st : List Value} {σ : am_H} {Q : Option Value → am_H → Prop} {x : Nat} : ax k_M_lets 122 [some (.ref x), a1, a2, a3, a4, a5, a6] st σ Q = ax k_M_lets 123 [some (.ref x), a1, a2, a3, a4, a5, a6] (.ref x :: st) σ Q := ru_loc (q := (_, _)) f_M_lets_122 rfl rfl rfl
theorem f_M_lets_123 : am_cd k_M_lets 123 = some ((some .boolean), .getfield 96, (11, 37, 954, 0, 3, .null)) := rfl
theorem s_M_lets_123 {ls : am_L} {st : List Value} {σ : am_H} {Q : Option Value → am_H → Prop} {a : Nat} : ax k_M_lets 123 ls (.ref a :: st) σ Q = ax_f (am_fld σ a 11 37) (fun v => ax k_M_lets 126 ls (v :: st) σ Q) := ru_getf f_M_lets_123 rfl
theorem f_M_lets_126 : am_cd k_M_lets 126 = some ((some .boolean), .iload_n 1, (0, 0, 0, 0, 0, .null)) := rfl
theorem s_M_lets_126 {a0 a2 a3 a4 a5 a6 : Option Value} {st : List Value} {σ : am_H} {Q : Option Value → am_H → Prop} {x : Int32} : ax k_M_lets 126 [a0, some (.int x), a2, a3, a4, a5, a6] st σ Q = ax k_M_lets 127 [a0, some (.int x), a2, a3, a4, a5, a6] (.int x :: st) σ Q := ru_loc (q := (_, _)) f_M_lets_126 rfl rfl rfl
theorem f_M_lets_127 : am_cd k_M_lets 127 = some ((some .boolean), .laload, (0, 0, 0, 0, 0, .null)) := rfl
theorem s_M_lets_127 {ls : am_L} {st : List Value} {σ : am_H} {Q : Option Value → am_H → Prop} {a : Nat} {j : Int32} : ax k_M_lets 127 ls (.int j :: .ref a :: st) σ Q = ax_f (am_lv σ a) (fun q => am_ix j q.1 ∧ ax k_M_lets 128 ls (.long (q.2 j.toNatClampNeg) :: st) σ Q) := ru_lald f_M_lets_127 rfl
theorem f_M_lets_128 : am_cd k_M_lets 128 = some ((some .boolean), .iload 6, (0, 0, 0, 0, 0, .null)) := rfl
theorem s_M_lets_128 {a0 a1 a2 a3 a4 a5 : Option Value} {st : List Value} {σ : am_H} {Q : Option Value → am_H → Prop} {x : Int32} : ax k_M_lets 128 [a0, a1, a2, a3, a4, a5, some (.int x)] st σ Q = ax k_M_lets 130 [a0, a1, a2, a3, a4, a5, some (.int x)] (.int x :: st) σ Q := ru_loc (q := (_, _)) f_M_lets_128 rfl rfl rfl
theorem f_M_lets_130 : am_cd k_M_lets 130 = some ((some .boolean), .lshr, (0, 0, 0, 0, 0, .null)) := rfl
theorem s_M_lets_130 {ls : am_L} {st : List Value} {σ : am_H} {Q : Option Value → am_H → Prop} {x : Int64} {y : Int32} : ax k_M_lets 130 ls (.int y :: .long x :: st) σ Q = ax k_M_lets 131 ls (.long (x >>> (y.toInt64 &&& 63)) :: st) σ Q := ru_pure f_M_lets_130 rfl rfl
theorem f_M_lets_131 : am_cd k_M_lets 131 = some ((some .boolean), .lconst 1, (0, 0, 0, 0, 0, .null)) := rfl
theorem s_M_lets_131 {ls : am_L} {st : List Value} {σ : am_H} {Q : Option Value → am_H → Prop} : ax k_M_lets 131 ls st σ Q = ax k_M_lets 132 ls (.long 1 :: st) σ Q := ru_lconst f_M_lets_131 (by decide +kernel) rfl
theorem f_M_lets_132 : am_cd k_M_lets 132 = some ((some .boolean), .land, (0, 0, 0, 0, 0, .null)) := rfl
theorem s_M_lets_132 {ls : am_L} {st : List Value} {σ : am_H} {Q : Option Value → am_H → Prop} {x y : Int64} : ax k_M_lets 132 ls (.long y :: .long x :: st) σ Q = ax k_M_lets 133 ls (.long (x &&& y) :: st) σ Q := ru_pure f_M_lets_132 rfl rfl
theorem f_M_lets_133 : am_cd k_M_lets 133 = some ((some .boolean), .lconst 1, (0, 0, 0, 0, 0, .null)) := rfl
theorem s_M_lets_133 {ls : am_L} {st : List Value} {σ : am_H} {Q : Option Value → am_H → Prop} : ax k_M_lets 133 ls st σ Q = ax k_M_lets 134 ls (.long 1 :: st) σ Q := ru_lconst f_M_lets_133 (by decide +kernel) rfl
theorem f_M_lets_134 : am_cd k_M_lets 134 = some ((some .boolean), .lcmp, (0, 0, 0, 0, 0, .null)) := rfl
theorem s_M_lets_134 {ls : am_L} {st : List Value} {σ : am_H} {Q : Option Value → am_H → Prop} {x y : Int64} : ax k_M_lets 134 ls (.long y :: .long x :: st) σ Q = ax k_M_lets 135 ls (.int (lg_cmp x y) :: st) σ Q := ru_pure f_M_lets_134 rfl rfl
theorem f_M_lets_135 : am_cd k_M_lets 135 = some ((some .boolean), .ifCond .ne 20, (155, 0, 0, 0, 0, .null)) := rfl
theorem s_M_lets_135 {ls : am_L} {st : List Value} {σ : am_H} {Q : Option Value → am_H → Prop} {x : Int32} : ax k_M_lets 135 ls (.int x :: st) σ Q = (if x = 0 then ax k_M_lets 138 ls st σ Q else ax k_M_lets 155 ls st σ Q) := (ru_if f_M_lets_135 rfl).trans (ru_i_ne _ _ _ _)
theorem f_M_lets_138 : am_cd k_M_lets 138 = some ((some .boolean), .aload_n 0, (0, 0, 0, 0, 0, .null)) := rfl
theorem s_M_lets_138 {a1 a2 a3 a4 a5 a6 : Option Value} {st : List Value} {σ : am_H} {Q : Option Value → am_H → Prop} {x : Nat} : ax k_M_lets 138 [some (.ref x), a1, a2, a3, a4, a5, a6] st σ Q = ax k_M_lets 139 [some (.ref x), a1, a2, a3, a4, a5, a6] (.ref x :: st) σ Q := ru_loc (q := (_, _)) f_M_lets_138 rfl rfl rfl
theorem f_M_lets_139 : am_cd k_M_lets 139 = some ((some .boolean), .iload 5, (0, 0, 0, 0, 0, .null)) := rfl
theorem s_M_lets_139 {a0 a1 a2 a3 a4 a6 : Option Value} {st : List Value} {σ : am_H} {Q : Option Value → am_H → Prop} {x : Int32} : ax k_M_lets 139 [a0, a1, a2, a3, a4, some (.int x), a6] st σ Q = ax k_M_lets 141 [a0, a1, a2, a3, a4, some (.int x), a6] (.int x :: st) σ Q := ru_loc (q := (_, _)) f_M_lets_139 rfl rfl rfl
theorem f_M_lets_141 : am_cd k_M_lets 141 = some ((some .boolean), .iload 6, (0, 0, 0, 0, 0, .null)) := rfl
theorem s_M_lets_141 {a0 a1 a2 a3 a4 a5 : Option Value} {st : List Value} {σ : am_H} {Q : Option Value → am_H → Prop} {x : Int32} : ax k_M_lets 141 [a0, a1, a2, a3, a4, a5, some (.int x)] st σ Q = ax k_M_lets 143 [a0, a1, a2, a3, a4, a5, some (.int x)] (.int x :: st) σ Q := ru_loc (q := (_, _)) f_M_lets_141 rfl rfl rfl
theorem f_M_lets_143 : am_cd k_M_lets 143 = some ((some .boolean), .aload_n 0, (0, 0, 0, 0, 0, .null)) := rfl
theorem s_M_lets_143 {a1 a2 a3 a4 a5 a6 : Option Value} {st : List Value} {σ : am_H} {Q : Option Value → am_H → Prop} {x : Nat} : ax k_M_lets 143 [some (.ref x), a1, a2, a3, a4, a5, a6] st σ Q = ax k_M_lets 144 [some (.ref x), a1, a2, a3, a4, a5, a6] (.ref x :: st) σ Q := ru_loc (q := (_, _)) f_M_lets_143 rfl rfl rfl
theorem f_M_lets_144 : am_cd k_M_lets 144 = some ((some .boolean), .getfield 161, (11, 0, 917, 0, 0, .null)) := rfl
theorem s_M_lets_144 {ls : am_L} {st : List Value} {σ : am_H} {Q : Option Value → am_H → Prop} {a : Nat} : ax k_M_lets 144 ls (.ref a :: st) σ Q = ax_f (am_fld σ a 11 0) (fun v => ax k_M_lets 147 ls (v :: st) σ Q) := ru_getf f_M_lets_144 rfl
theorem f_M_lets_147 : am_cd k_M_lets 147 = some ((some .boolean), .invokevirtual 180, (120, 3, 1129, 0, 11, .null)) := rfl
theorem s_M_lets_147 {ls : am_L} {st : List Value} {σ : am_H} {Q : Option Value → am_H → Prop} {p0 : Int32} {p1 : Int32} {p2 : Int32} {b : Nat} (hi : am_is σ b 11) (h8 : am_s8 st) : ax k_M_lets 147 ls (.int p2 :: .int p1 :: .int p0 :: .ref b :: st) σ Q = ax k_M_isOf 0 [some (.ref b), some (.int p0), some (.int p1), some (.int p2), none] [] σ (ax_k k_M_lets 150 ls st Q) := ru_vir (M' := rk_M_isOf) f_M_lets_147 rfl rfl rfl rfl hi h8 rfl rfl rfl rfl rfl
theorem f_M_lets_150 : am_cd k_M_lets 150 = some ((some .boolean), .ifCond .eq 5, (155, 0, 0, 0, 0, .null)) := rfl
theorem s_M_lets_150 {ls : am_L} {st : List Value} {σ : am_H} {Q : Option Value → am_H → Prop} {x : Int32} : ax k_M_lets 150 ls (.int x :: st) σ Q = (if x = 0 then ax k_M_lets 155 ls st σ Q else ax k_M_lets 153 ls st σ Q) := (ru_if f_M_lets_150 rfl).trans (ru_i_eq _ _ _ _)
theorem f_M_lets_153 : am_cd k_M_lets 153 = some ((some .boolean), .iconst 0, (0, 0, 0, 0, 0, .null)) := rfl
theorem s_M_lets_153 {ls : am_L} {st : List Value} {σ : am_H} {Q : Option Value → am_H → Prop} : ax k_M_lets 153 ls st σ Q = ax k_M_lets 154 ls (.int 0 :: st) σ Q := ru_iconst f_M_lets_153 (by decide +kernel) rfl
theorem f_M_lets_154 : am_cd k_M_lets 154 = some ((some .boolean), .ireturn, (0, 0, 0, 0, 0, .null)) := rfl
theorem s_M_lets_154 {ls : am_L} {σ : am_H} {Q : Option Value → am_H → Prop} {v : Int32} : ax k_M_lets 154 ls ([.int v]) σ Q = (am_nar .boolean v = true ∧ Q (some (.int v)) σ) := ru_iret f_M_lets_154
theorem f_M_lets_155 : am_cd k_M_lets 155 = some ((some .boolean), .iinc 6 1, (0, 0, 0, 0, 0, .null)) := rfl
theorem s_M_lets_155 {a0 a1 a2 a3 a4 a5 : Option Value} {st : List Value} {σ : am_H} {Q : Option Value → am_H → Prop} {x : Int32} (hc : am_c2 a5 = false) : ax k_M_lets 155 [a0, a1, a2, a3, a4, a5, some (.int x)] st σ Q = ax k_M_lets 158 [a0, a1, a2, a3, a4, a5, some (.int (x + 1))] st σ Q := ru_iinc f_M_lets_155 rfl (Nat.le_of_ble_eq_true rfl) (by decide +kernel) (ru_st1 (Nat.le_of_ble_eq_true rfl) (am_clr_c2 hc rfl) rfl) rfl
theorem f_M_lets_158 : am_cd k_M_lets 158 = some ((some .boolean), .goto (-50), (108, 0, 0, 0, 0, .null)) := rfl
theorem s_M_lets_158 {ls : am_L} {st : List Value} {σ : am_H} {Q : Option Value → am_H → Prop} : ax k_M_lets 158 ls st σ Q = ax k_M_lets 108 ls st σ Q := ru_goto f_M_lets_158
theorem f_M_lets_161 : am_cd k_M_lets 161 = some ((some .boolean), .iconst 1, (0, 0, 0, 0, 0, .null)) := rfl
theorem s_M_lets_161 {ls : am_L} {st : List Value} {σ : am_H} {Q : Option Value → am_H → Prop} : ax k_M_lets 161 ls st σ Q = ax k_M_lets 162 ls (.int 1 :: st) σ Q := ru_iconst f_M_lets_161 (by decide +kernel) rfl
theorem f_M_lets_162 : am_cd k_M_lets 162 = some ((some .boolean), .ireturn, (0, 0, 0, 0, 0, .null)) := rfl
theorem s_M_lets_162 {ls : am_L} {σ : am_H} {Q : Option Value → am_H → Prop} {v : Int32} : ax k_M_lets 162 ls ([.int v]) σ Q = (am_nar .boolean v = true ∧ Q (some (.int v)) σ) := ru_iret f_M_lets_162
theorem f_M_isUse_0 : am_cd k_M_isUse 0 = some ((some .boolean), .aload_n 0, (0, 0, 0, 0, 0, .null)) := rfl
theorem s_M_isUse_0 {a1 a2 a3 a4 : Option Value} {st : List Value} {σ : am_H} {Q : Option Value → am_H → Prop} {x : Nat} : ax k_M_isUse 0 [some (.ref x), a1, a2, a3, a4] st σ Q = ax k_M_isUse 1 [some (.ref x), a1, a2, a3, a4] (.ref x :: st) σ Q := ru_loc (q := (_, _)) f_M_isUse_0 rfl rfl rfl
theorem f_M_isUse_1 : am_cd k_M_isUse 1 = some ((some .boolean), .iload_n 1, (0, 0, 0, 0, 0, .null)) := rfl
theorem s_M_isUse_1 {a0 a2 a3 a4 : Option Value} {st : List Value} {σ : am_H} {Q : Option Value → am_H → Prop} {x : Int32} : ax k_M_isUse 1 [a0, some (.int x), a2, a3, a4] st σ Q = ax k_M_isUse 2 [a0, some (.int x), a2, a3, a4] (.int x :: st) σ Q := ru_loc (q := (_, _)) f_M_isUse_1 rfl rfl rfl
theorem f_M_isUse_2 : am_cd k_M_isUse 2 = some ((some .boolean), .invokevirtual 195, (115, 1, 1155, 0, 11, .null)) := rfl
theorem s_M_isUse_2 {ls : am_L} {st : List Value} {σ : am_H} {Q : Option Value → am_H → Prop} {p0 : Int32} {b : Nat} (hi : am_is σ b 11) (h8 : am_s8 st) : ax k_M_isUse 2 ls (.int p0 :: .ref b :: st) σ Q = ax k_M_isPicture 0 [some (.ref b), some (.int p0)] [] σ (ax_k k_M_isUse 5 ls st Q) := ru_vir (M' := rk_M_isPicture) f_M_isUse_2 rfl rfl rfl rfl hi h8 rfl rfl rfl rfl rfl
theorem f_M_isUse_5 : am_cd k_M_isUse 5 = some ((some .boolean), .ifCond .eq 38, (43, 0, 0, 0, 0, .null)) := rfl
theorem s_M_isUse_5 {ls : am_L} {st : List Value} {σ : am_H} {Q : Option Value → am_H → Prop} {x : Int32} : ax k_M_isUse 5 ls (.int x :: st) σ Q = (if x = 0 then ax k_M_isUse 43 ls st σ Q else ax k_M_isUse 8 ls st σ Q) := (ru_if f_M_isUse_5 rfl).trans (ru_i_eq _ _ _ _)
theorem f_M_isUse_8 : am_cd k_M_isUse 8 = some ((some .boolean), .iload_n 2, (0, 0, 0, 0, 0, .null)) := rfl
theorem s_M_isUse_8 {a0 a1 a3 a4 : Option Value} {st : List Value} {σ : am_H} {Q : Option Value → am_H → Prop} {x : Int32} : ax k_M_isUse 8 [a0, a1, some (.int x), a3, a4] st σ Q = ax k_M_isUse 9 [a0, a1, some (.int x), a3, a4] (.int x :: st) σ Q := ru_loc (q := (_, _)) f_M_isUse_8 rfl rfl rfl
theorem f_M_isUse_9 : am_cd k_M_isUse 9 = some ((some .boolean), .iconst 0, (0, 0, 0, 0, 0, .null)) := rfl
theorem s_M_isUse_9 {ls : am_L} {st : List Value} {σ : am_H} {Q : Option Value → am_H → Prop} : ax k_M_isUse 9 ls st σ Q = ax k_M_isUse 10 ls (.int 0 :: st) σ Q := ru_iconst f_M_isUse_9 (by decide +kernel) rfl
theorem f_M_isUse_10 : am_cd k_M_isUse 10 = some ((some .boolean), .bipush 9, (0, 0, 0, 0, 0, .null)) := rfl
theorem s_M_isUse_10 {ls : am_L} {st : List Value} {σ : am_H} {Q : Option Value → am_H → Prop} : ax k_M_isUse 10 ls st σ Q = ax k_M_isUse 12 ls (.int 9 :: st) σ Q := ru_bipush f_M_isUse_10 (by decide +kernel) rfl
theorem f_M_isUse_12 : am_cd k_M_isUse 12 = some ((some .boolean), .invokestatic 154, (113, 3, 1110, 0, 11, .null)) := rfl
theorem s_M_isUse_12 {ls : am_L} {st : List Value} {σ : am_H} {Q : Option Value → am_H → Prop} {p0 : Int32} {p1 : Int32} {p2 : Int32} (h8 : am_s8 st) : ax k_M_isUse 12 ls (.int p2 :: .int p1 :: .int p0 :: st) σ Q = ax k_M_isIn 0 [some (.int p0), some (.int p1), some (.int p2)] [] σ (ax_k k_M_isUse 15 ls st Q) := ru_sta (M' := rk_M_isIn) f_M_isUse_12 rfl (by decide) rfl (by simp) rfl h8 rfl rfl rfl rfl rfl
theorem f_M_isUse_15 : am_cd k_M_isUse 15 = some ((some .boolean), .ifCond .eq 28, (43, 0, 0, 0, 0, .null)) := rfl
theorem s_M_isUse_15 {ls : am_L} {st : List Value} {σ : am_H} {Q : Option Value → am_H → Prop} {x : Int32} : ax k_M_isUse 15 ls (.int x :: st) σ Q = (if x = 0 then ax k_M_isUse 43 ls st σ Q else ax k_M_isUse 18 ls st σ Q) := (ru_if f_M_isUse_15 rfl).trans (ru_i_eq _ _ _ _)
theorem f_M_isUse_18 : am_cd k_M_isUse 18 = some ((some .boolean), .iload_n 3, (0, 0, 0, 0, 0, .null)) := rfl
theorem s_M_isUse_18 {a0 a1 a2 a4 : Option Value} {st : List Value} {σ : am_H} {Q : Option Value → am_H → Prop} {x : Int32} : ax k_M_isUse 18 [a0, a1, a2, some (.int x), a4] st σ Q = ax k_M_isUse 19 [a0, a1, a2, some (.int x), a4] (.int x :: st) σ Q := ru_loc (q := (_, _)) f_M_isUse_18 rfl rfl rfl
theorem f_M_isUse_19 : am_cd k_M_isUse 19 = some ((some .boolean), .iconst 0, (0, 0, 0, 0, 0, .null)) := rfl
theorem s_M_isUse_19 {ls : am_L} {st : List Value} {σ : am_H} {Q : Option Value → am_H → Prop} : ax k_M_isUse 19 ls st σ Q = ax k_M_isUse 20 ls (.int 0 :: st) σ Q := ru_iconst f_M_isUse_19 (by decide +kernel) rfl
theorem f_M_isUse_20 : am_cd k_M_isUse 20 = some ((some .boolean), .iconst 4, (0, 0, 0, 0, 0, .null)) := rfl
theorem s_M_isUse_20 {ls : am_L} {st : List Value} {σ : am_H} {Q : Option Value → am_H → Prop} : ax k_M_isUse 20 ls st σ Q = ax k_M_isUse 21 ls (.int 4 :: st) σ Q := ru_iconst f_M_isUse_20 (by decide +kernel) rfl
theorem f_M_isUse_21 : am_cd k_M_isUse 21 = some ((some .boolean), .invokestatic 154, (113, 3, 1110, 0, 11, .null)) := rfl
theorem s_M_isUse_21 {ls : am_L} {st : List Value} {σ : am_H} {Q : Option Value → am_H → Prop} {p0 : Int32} {p1 : Int32} {p2 : Int32} (h8 : am_s8 st) : ax k_M_isUse 21 ls (.int p2 :: .int p1 :: .int p0 :: st) σ Q = ax k_M_isIn 0 [some (.int p0), some (.int p1), some (.int p2)] [] σ (ax_k k_M_isUse 24 ls st Q) := ru_sta (M' := rk_M_isIn) f_M_isUse_21 rfl (by decide) rfl (by simp) rfl h8 rfl rfl rfl rfl rfl
theorem f_M_isUse_24 : am_cd k_M_isUse 24 = some ((some .boolean), .ifCond .eq 19, (43, 0, 0, 0, 0, .null)) := rfl
theorem s_M_isUse_24 {ls : am_L} {st : List Value} {σ : am_H} {Q : Option Value → am_H → Prop} {x : Int32} : ax k_M_isUse 24 ls (.int x :: st) σ Q = (if x = 0 then ax k_M_isUse 43 ls st σ Q else ax k_M_isUse 27 ls st σ Q) := (ru_if f_M_isUse_24 rfl).trans (ru_i_eq _ _ _ _)
theorem f_M_isUse_27 : am_cd k_M_isUse 27 = some ((some .boolean), .iload 4, (0, 0, 0, 0, 0, .null)) := rfl
theorem s_M_isUse_27 {a0 a1 a2 a3 : Option Value} {st : List Value} {σ : am_H} {Q : Option Value → am_H → Prop} {x : Int32} : ax k_M_isUse 27 [a0, a1, a2, a3, some (.int x)] st σ Q = ax k_M_isUse 29 [a0, a1, a2, a3, some (.int x)] (.int x :: st) σ Q := ru_loc (q := (_, _)) f_M_isUse_27 rfl rfl rfl
theorem f_M_isUse_29 : am_cd k_M_isUse 29 = some ((some .boolean), .iconst 1, (0, 0, 0, 0, 0, .null)) := rfl
theorem s_M_isUse_29 {ls : am_L} {st : List Value} {σ : am_H} {Q : Option Value → am_H → Prop} : ax k_M_isUse 29 ls st σ Q = ax k_M_isUse 30 ls (.int 1 :: st) σ Q := ru_iconst f_M_isUse_29 (by decide +kernel) rfl
theorem f_M_isUse_30 : am_cd k_M_isUse 30 = some ((some .boolean), .sipush 1000, (0, 0, 0, 0, 0, .null)) := rfl
theorem s_M_isUse_30 {ls : am_L} {st : List Value} {σ : am_H} {Q : Option Value → am_H → Prop} : ax k_M_isUse 30 ls st σ Q = ax k_M_isUse 33 ls (.int 1000 :: st) σ Q := ru_sipush f_M_isUse_30 (by decide +kernel) rfl
theorem f_M_isUse_33 : am_cd k_M_isUse 33 = some ((some .boolean), .invokestatic 154, (113, 3, 1110, 0, 11, .null)) := rfl
theorem s_M_isUse_33 {ls : am_L} {st : List Value} {σ : am_H} {Q : Option Value → am_H → Prop} {p0 : Int32} {p1 : Int32} {p2 : Int32} (h8 : am_s8 st) : ax k_M_isUse 33 ls (.int p2 :: .int p1 :: .int p0 :: st) σ Q = ax k_M_isIn 0 [some (.int p0), some (.int p1), some (.int p2)] [] σ (ax_k k_M_isUse 36 ls st Q) := ru_sta (M' := rk_M_isIn) f_M_isUse_33 rfl (by decide) rfl (by simp) rfl h8 rfl rfl rfl rfl rfl
theorem f_M_isUse_36 : am_cd k_M_isUse 36 = some ((some .boolean), .ifCond .eq 7, (43, 0, 0, 0, 0, .null)) := rfl
theorem s_M_isUse_36 {ls : am_L} {st : List Value} {σ : am_H} {Q : Option Value → am_H → Prop} {x : Int32} : ax k_M_isUse 36 ls (.int x :: st) σ Q = (if x = 0 then ax k_M_isUse 43 ls st σ Q else ax k_M_isUse 39 ls st σ Q) := (ru_if f_M_isUse_36 rfl).trans (ru_i_eq _ _ _ _)
theorem f_M_isUse_39 : am_cd k_M_isUse 39 = some ((some .boolean), .iconst 1, (0, 0, 0, 0, 0, .null)) := rfl
theorem s_M_isUse_39 {ls : am_L} {st : List Value} {σ : am_H} {Q : Option Value → am_H → Prop} : ax k_M_isUse 39 ls st σ Q = ax k_M_isUse 40 ls (.int 1 :: st) σ Q := ru_iconst f_M_isUse_39 (by decide +kernel) rfl
theorem f_M_isUse_40 : am_cd k_M_isUse 40 = some ((some .boolean), .goto 4, (44, 0, 0, 0, 0, .null)) := rfl
theorem s_M_isUse_40 {ls : am_L} {st : List Value} {σ : am_H} {Q : Option Value → am_H → Prop} : ax k_M_isUse 40 ls st σ Q = ax k_M_isUse 44 ls st σ Q := ru_goto f_M_isUse_40
theorem f_M_isUse_43 : am_cd k_M_isUse 43 = some ((some .boolean), .iconst 0, (0, 0, 0, 0, 0, .null)) := rfl
theorem s_M_isUse_43 {ls : am_L} {st : List Value} {σ : am_H} {Q : Option Value → am_H → Prop} : ax k_M_isUse 43 ls st σ Q = ax k_M_isUse 44 ls (.int 0 :: st) σ Q := ru_iconst f_M_isUse_43 (by decide +kernel) rfl
theorem f_M_isUse_44 : am_cd k_M_isUse 44 = some ((some .boolean), .ireturn, (0, 0, 0, 0, 0, .null)) := rfl
theorem s_M_isUse_44 {ls : am_L} {σ : am_H} {Q : Option Value → am_H → Prop} {v : Int32} : ax k_M_isUse 44 ls ([.int v]) σ Q = (am_nar .boolean v = true ∧ Q (some (.int v)) σ) := ru_iret f_M_isUse_44
theorem f_M_whyNot_0 : am_cd k_M_whyNot 0 = some ((some .int), .aload_n 0, (0, 0, 0, 0, 0, .null)) := rfl
theorem s_M_whyNot_0 {a1 a2 a3 a4 a5 a6 : Option Value} {st : List Value} {σ : am_H} {Q : Option Value → am_H → Prop} {x : Nat} : ax k_M_whyNot 0 [some (.ref x), a1, a2, a3, a4, a5, a6] st σ Q = ax k_M_whyNot 1 [some (.ref x), a1, a2, a3, a4, a5, a6] (.ref x :: st) σ Q := ru_loc (q := (_, _)) f_M_whyNot_0 rfl rfl rfl
theorem f_M_whyNot_1 : am_cd k_M_whyNot 1 = some ((some .int), .iconst (-1), (0, 0, 0, 0, 0, .null)) := rfl
theorem s_M_whyNot_1 {ls : am_L} {st : List Value} {σ : am_H} {Q : Option Value → am_H → Prop} : ax k_M_whyNot 1 ls st σ Q = ax k_M_whyNot 2 ls (.int (-1) :: st) σ Q := ru_iconst f_M_whyNot_1 (by decide +kernel) rfl
theorem f_M_whyNot_2 : am_cd k_M_whyNot 2 = some ((some .int), .putfield 286, (11, 44, 961, 0, 0, .null)) := rfl
theorem s_M_whyNot_2 {ls : am_L} {st : List Value} {σ : am_H} {Q : Option Value → am_H → Prop} {a : Nat} {v : Value} : ax k_M_whyNot 2 ls (v :: .ref a :: st) σ Q = ax_f (am_fld σ a 11 44) (fun _ => a < am_top ∧ am_okv 0 v = true ∧ ax k_M_whyNot 5 ls st (am_put σ a 44 v) Q) := ru_putf f_M_whyNot_2 rfl
theorem f_M_whyNot_5 : am_cd k_M_whyNot 5 = some ((some .int), .aload_n 0, (0, 0, 0, 0, 0, .null)) := rfl
theorem s_M_whyNot_5 {a1 a2 a3 a4 a5 a6 : Option Value} {st : List Value} {σ : am_H} {Q : Option Value → am_H → Prop} {x : Nat} : ax k_M_whyNot 5 [some (.ref x), a1, a2, a3, a4, a5, a6] st σ Q = ax k_M_whyNot 6 [some (.ref x), a1, a2, a3, a4, a5, a6] (.ref x :: st) σ Q := ru_loc (q := (_, _)) f_M_whyNot_5 rfl rfl rfl
theorem f_M_whyNot_6 : am_cd k_M_whyNot 6 = some ((some .int), .iload_n 1, (0, 0, 0, 0, 0, .null)) := rfl
theorem s_M_whyNot_6 {a0 a2 a3 a4 a5 a6 : Option Value} {st : List Value} {σ : am_H} {Q : Option Value → am_H → Prop} {x : Int32} : ax k_M_whyNot 6 [a0, some (.int x), a2, a3, a4, a5, a6] st σ Q = ax k_M_whyNot 7 [a0, some (.int x), a2, a3, a4, a5, a6] (.int x :: st) σ Q := ru_loc (q := (_, _)) f_M_whyNot_6 rfl rfl rfl
theorem f_M_whyNot_7 : am_cd k_M_whyNot 7 = some ((some .int), .aload_n 0, (0, 0, 0, 0, 0, .null)) := rfl
theorem s_M_whyNot_7 {a1 a2 a3 a4 a5 a6 : Option Value} {st : List Value} {σ : am_H} {Q : Option Value → am_H → Prop} {x : Nat} : ax k_M_whyNot 7 [some (.ref x), a1, a2, a3, a4, a5, a6] st σ Q = ax k_M_whyNot 8 [some (.ref x), a1, a2, a3, a4, a5, a6] (.ref x :: st) σ Q := ru_loc (q := (_, _)) f_M_whyNot_7 rfl rfl rfl
theorem f_M_whyNot_8 : am_cd k_M_whyNot 8 = some ((some .int), .getfield 161, (11, 0, 917, 0, 0, .null)) := rfl
theorem s_M_whyNot_8 {ls : am_L} {st : List Value} {σ : am_H} {Q : Option Value → am_H → Prop} {a : Nat} : ax k_M_whyNot 8 ls (.ref a :: st) σ Q = ax_f (am_fld σ a 11 0) (fun v => ax k_M_whyNot 11 ls (v :: st) σ Q) := ru_getf f_M_whyNot_8 rfl
theorem f_M_whyNot_11 : am_cd k_M_whyNot 11 = some ((some .int), .invokevirtual 229, (141, 2, 1223, 0, 11, .null)) := rfl
theorem s_M_whyNot_11 {ls : am_L} {st : List Value} {σ : am_H} {Q : Option Value → am_H → Prop} {p0 : Int32} {p1 : Int32} {b : Nat} (hi : am_is σ b 11) (h8 : am_s8 st) : ax k_M_whyNot 11 ls (.int p1 :: .int p0 :: .ref b :: st) σ Q = ax k_M_embargoed 0 [some (.ref b), some (.int p0), some (.int p1), none, none] [] σ (ax_k k_M_whyNot 14 ls st Q) := ru_vir (M' := rk_M_embargoed) f_M_whyNot_11 rfl rfl rfl rfl hi h8 rfl rfl rfl rfl rfl
theorem f_M_whyNot_14 : am_cd k_M_whyNot 14 = some ((some .int), .aload_n 0, (0, 0, 0, 0, 0, .null)) := rfl
theorem s_M_whyNot_14 {a1 a2 a3 a4 a5 a6 : Option Value} {st : List Value} {σ : am_H} {Q : Option Value → am_H → Prop} {x : Nat} : ax k_M_whyNot 14 [some (.ref x), a1, a2, a3, a4, a5, a6] st σ Q = ax k_M_whyNot 15 [some (.ref x), a1, a2, a3, a4, a5, a6] (.ref x :: st) σ Q := ru_loc (q := (_, _)) f_M_whyNot_14 rfl rfl rfl
theorem f_M_whyNot_15 : am_cd k_M_whyNot 15 = some ((some .int), .getfield 161, (11, 0, 917, 0, 0, .null)) := rfl
theorem s_M_whyNot_15 {ls : am_L} {st : List Value} {σ : am_H} {Q : Option Value → am_H → Prop} {a : Nat} : ax k_M_whyNot 15 ls (.ref a :: st) σ Q = ax_f (am_fld σ a 11 0) (fun v => ax k_M_whyNot 18 ls (v :: st) σ Q) := ru_getf f_M_whyNot_15 rfl
theorem f_M_whyNot_18 : am_cd k_M_whyNot 18 = some ((some .int), .if_icmp .le 5, (23, 0, 0, 0, 0, .null)) := rfl
theorem s_M_whyNot_18 {ls : am_L} {st : List Value} {σ : am_H} {Q : Option Value → am_H → Prop} {x y : Int32} : ax k_M_whyNot 18 ls (.int y :: .int x :: st) σ Q = (if y < x then ax k_M_whyNot 21 ls st σ Q else ax k_M_whyNot 23 ls st σ Q) := (ru_icmp f_M_whyNot_18 rfl).trans (ru_i_le _ _ _ _)
theorem f_M_whyNot_21 : am_cd k_M_whyNot 21 = some ((some .int), .iconst 1, (0, 0, 0, 0, 0, .null)) := rfl
theorem s_M_whyNot_21 {ls : am_L} {st : List Value} {σ : am_H} {Q : Option Value → am_H → Prop} : ax k_M_whyNot 21 ls st σ Q = ax k_M_whyNot 22 ls (.int 1 :: st) σ Q := ru_iconst f_M_whyNot_21 (by decide +kernel) rfl
theorem f_M_whyNot_22 : am_cd k_M_whyNot 22 = some ((some .int), .ireturn, (0, 0, 0, 0, 0, .null)) := rfl
theorem s_M_whyNot_22 {ls : am_L} {σ : am_H} {Q : Option Value → am_H → Prop} {v : Int32} : ax k_M_whyNot 22 ls [.int v] σ Q = Q (some (.int v)) σ := ru_iretI f_M_whyNot_22
theorem f_M_whyNot_23 : am_cd k_M_whyNot 23 = some ((some .int), .iconst 0, (0, 0, 0, 0, 0, .null)) := rfl
theorem s_M_whyNot_23 {ls : am_L} {st : List Value} {σ : am_H} {Q : Option Value → am_H → Prop} : ax k_M_whyNot 23 ls st σ Q = ax k_M_whyNot 24 ls (.int 0 :: st) σ Q := ru_iconst f_M_whyNot_23 (by decide +kernel) rfl
theorem f_M_whyNot_24 : am_cd k_M_whyNot 24 = some ((some .int), .istore 6, (0, 0, 0, 0, 0, .null)) := rfl
theorem s_M_whyNot_24 {a0 a1 a2 a3 a4 a5 a6 : Option Value} {st : List Value} {σ : am_H} {Q : Option Value → am_H → Prop} {x : Int32} (hc : am_c2 a5 = false) : ax k_M_whyNot 24 [a0, a1, a2, a3, a4, a5, a6] (.int x :: st) σ Q = ax k_M_whyNot 26 [a0, a1, a2, a3, a4, a5, some (.int x)] st σ Q := ru_istore f_M_whyNot_24 (Nat.le_of_ble_eq_true rfl) (ru_st1 (Nat.le_of_ble_eq_true rfl) (am_clr_c2 hc rfl) rfl) rfl
theorem f_M_whyNot_26 : am_cd k_M_whyNot 26 = some ((some .int), .iload 6, (0, 0, 0, 0, 0, .null)) := rfl
theorem s_M_whyNot_26 {a0 a1 a2 a3 a4 a5 : Option Value} {st : List Value} {σ : am_H} {Q : Option Value → am_H → Prop} {x : Int32} : ax k_M_whyNot 26 [a0, a1, a2, a3, a4, a5, some (.int x)] st σ Q = ax k_M_whyNot 28 [a0, a1, a2, a3, a4, a5, some (.int x)] (.int x :: st) σ Q := ru_loc (q := (_, _)) f_M_whyNot_26 rfl rfl rfl
theorem f_M_whyNot_28 : am_cd k_M_whyNot 28 = some ((some .int), .aload_n 0, (0, 0, 0, 0, 0, .null)) := rfl
theorem s_M_whyNot_28 {a1 a2 a3 a4 a5 a6 : Option Value} {st : List Value} {σ : am_H} {Q : Option Value → am_H → Prop} {x : Nat} : ax k_M_whyNot 28 [some (.ref x), a1, a2, a3, a4, a5, a6] st σ Q = ax k_M_whyNot 29 [some (.ref x), a1, a2, a3, a4, a5, a6] (.ref x :: st) σ Q := ru_loc (q := (_, _)) f_M_whyNot_28 rfl rfl rfl
theorem f_M_whyNot_29 : am_cd k_M_whyNot 29 = some ((some .int), .getfield 75, (11, 30, 947, 0, 3, .null)) := rfl
theorem s_M_whyNot_29 {ls : am_L} {st : List Value} {σ : am_H} {Q : Option Value → am_H → Prop} {a : Nat} : ax k_M_whyNot 29 ls (.ref a :: st) σ Q = ax_f (am_fld σ a 11 30) (fun v => ax k_M_whyNot 32 ls (v :: st) σ Q) := ru_getf f_M_whyNot_29 rfl
theorem f_M_whyNot_32 : am_cd k_M_whyNot 32 = some ((some .int), .iload_n 1, (0, 0, 0, 0, 0, .null)) := rfl
theorem s_M_whyNot_32 {a0 a2 a3 a4 a5 a6 : Option Value} {st : List Value} {σ : am_H} {Q : Option Value → am_H → Prop} {x : Int32} : ax k_M_whyNot 32 [a0, some (.int x), a2, a3, a4, a5, a6] st σ Q = ax k_M_whyNot 33 [a0, some (.int x), a2, a3, a4, a5, a6] (.int x :: st) σ Q := ru_loc (q := (_, _)) f_M_whyNot_32 rfl rfl rfl
theorem f_M_whyNot_33 : am_cd k_M_whyNot 33 = some ((some .int), .iaload, (0, 0, 0, 0, 0, .null)) := rfl
theorem s_M_whyNot_33 {ls : am_L} {st : List Value} {σ : am_H} {Q : Option Value → am_H → Prop} {a : Nat} {j : Int32} : ax k_M_whyNot 33 ls (.int j :: .ref a :: st) σ Q = ax_f (am_j σ a) (fun q => q.1 = 0 ∧ am_ix j q.2.1 ∧ ax k_M_whyNot 34 ls (.int (q.2.2 j.toNatClampNeg) :: st) σ Q) := rv_iald f_M_whyNot_33 rfl
theorem f_M_whyNot_34 : am_cd k_M_whyNot 34 = some ((some .int), .if_icmp .ge 39, (73, 0, 0, 0, 0, .null)) := rfl
theorem s_M_whyNot_34 {ls : am_L} {st : List Value} {σ : am_H} {Q : Option Value → am_H → Prop} {x y : Int32} : ax k_M_whyNot 34 ls (.int y :: .int x :: st) σ Q = (if x < y then ax k_M_whyNot 37 ls st σ Q else ax k_M_whyNot 73 ls st σ Q) := (ru_icmp f_M_whyNot_34 rfl).trans (ru_i_ge _ _ _ _)
theorem f_M_whyNot_37 : am_cd k_M_whyNot 37 = some ((some .int), .aload_n 0, (0, 0, 0, 0, 0, .null)) := rfl
theorem s_M_whyNot_37 {a1 a2 a3 a4 a5 a6 : Option Value} {st : List Value} {σ : am_H} {Q : Option Value → am_H → Prop} {x : Nat} : ax k_M_whyNot 37 [some (.ref x), a1, a2, a3, a4, a5, a6] st σ Q = ax k_M_whyNot 38 [some (.ref x), a1, a2, a3, a4, a5, a6] (.ref x :: st) σ Q := ru_loc (q := (_, _)) f_M_whyNot_37 rfl rfl rfl
theorem f_M_whyNot_38 : am_cd k_M_whyNot 38 = some ((some .int), .iconst 3, (0, 0, 0, 0, 0, .null)) := rfl
theorem s_M_whyNot_38 {ls : am_L} {st : List Value} {σ : am_H} {Q : Option Value → am_H → Prop} : ax k_M_whyNot 38 ls st σ Q = ax k_M_whyNot 39 ls (.int 3 :: st) σ Q := ru_iconst f_M_whyNot_38 (by decide +kernel) rfl
theorem f_M_whyNot_39 : am_cd k_M_whyNot 39 = some ((some .int), .iload_n 1, (0, 0, 0, 0, 0, .null)) := rfl
theorem s_M_whyNot_39 {a0 a2 a3 a4 a5 a6 : Option Value} {st : List Value} {σ : am_H} {Q : Option Value → am_H → Prop} {x : Int32} : ax k_M_whyNot 39 [a0, some (.int x), a2, a3, a4, a5, a6] st σ Q = ax k_M_whyNot 40 [a0, some (.int x), a2, a3, a4, a5, a6] (.int x :: st) σ Q := ru_loc (q := (_, _)) f_M_whyNot_39 rfl rfl rfl
theorem f_M_whyNot_40 : am_cd k_M_whyNot 40 = some ((some .int), .imul, (0, 0, 0, 0, 0, .null)) := rfl
theorem s_M_whyNot_40 {ls : am_L} {st : List Value} {σ : am_H} {Q : Option Value → am_H → Prop} {x y : Int32} : ax k_M_whyNot 40 ls (.int y :: .int x :: st) σ Q = ax k_M_whyNot 41 ls (.int (x * y) :: st) σ Q := ru_pure f_M_whyNot_40 rfl rfl
theorem f_M_whyNot_41 : am_cd k_M_whyNot 41 = some ((some .int), .iload 6, (0, 0, 0, 0, 0, .null)) := rfl
theorem s_M_whyNot_41 {a0 a1 a2 a3 a4 a5 : Option Value} {st : List Value} {σ : am_H} {Q : Option Value → am_H → Prop} {x : Int32} : ax k_M_whyNot 41 [a0, a1, a2, a3, a4, a5, some (.int x)] st σ Q = ax k_M_whyNot 43 [a0, a1, a2, a3, a4, a5, some (.int x)] (.int x :: st) σ Q := ru_loc (q := (_, _)) f_M_whyNot_41 rfl rfl rfl
theorem f_M_whyNot_43 : am_cd k_M_whyNot 43 = some ((some .int), .iadd, (0, 0, 0, 0, 0, .null)) := rfl
theorem s_M_whyNot_43 {ls : am_L} {st : List Value} {σ : am_H} {Q : Option Value → am_H → Prop} {x y : Int32} : ax k_M_whyNot 43 ls (.int y :: .int x :: st) σ Q = ax k_M_whyNot 44 ls (.int (x + y) :: st) σ Q := ru_pure f_M_whyNot_43 rfl rfl
theorem f_M_whyNot_44 : am_cd k_M_whyNot 44 = some ((some .int), .iload_n 2, (0, 0, 0, 0, 0, .null)) := rfl
theorem s_M_whyNot_44 {a0 a1 a3 a4 a5 a6 : Option Value} {st : List Value} {σ : am_H} {Q : Option Value → am_H → Prop} {x : Int32} : ax k_M_whyNot 44 [a0, a1, some (.int x), a3, a4, a5, a6] st σ Q = ax k_M_whyNot 45 [a0, a1, some (.int x), a3, a4, a5, a6] (.int x :: st) σ Q := ru_loc (q := (_, _)) f_M_whyNot_44 rfl rfl rfl
theorem f_M_whyNot_45 : am_cd k_M_whyNot 45 = some ((some .int), .iload_n 3, (0, 0, 0, 0, 0, .null)) := rfl
theorem s_M_whyNot_45 {a0 a1 a2 a4 a5 a6 : Option Value} {st : List Value} {σ : am_H} {Q : Option Value → am_H → Prop} {x : Int32} : ax k_M_whyNot 45 [a0, a1, a2, some (.int x), a4, a5, a6] st σ Q = ax k_M_whyNot 46 [a0, a1, a2, some (.int x), a4, a5, a6] (.int x :: st) σ Q := ru_loc (q := (_, _)) f_M_whyNot_45 rfl rfl rfl
theorem f_M_whyNot_46 : am_cd k_M_whyNot 46 = some ((some .int), .iload 4, (0, 0, 0, 0, 0, .null)) := rfl
theorem s_M_whyNot_46 {a0 a1 a2 a3 a5 a6 : Option Value} {st : List Value} {σ : am_H} {Q : Option Value → am_H → Prop} {x : Int32} : ax k_M_whyNot 46 [a0, a1, a2, a3, some (.int x), a5, a6] st σ Q = ax k_M_whyNot 48 [a0, a1, a2, a3, some (.int x), a5, a6] (.int x :: st) σ Q := ru_loc (q := (_, _)) f_M_whyNot_46 rfl rfl rfl
theorem f_M_whyNot_48 : am_cd k_M_whyNot 48 = some ((some .int), .iload 5, (0, 0, 0, 0, 0, .null)) := rfl
theorem s_M_whyNot_48 {a0 a1 a2 a3 a4 a6 : Option Value} {st : List Value} {σ : am_H} {Q : Option Value → am_H → Prop} {x : Int32} : ax k_M_whyNot 48 [a0, a1, a2, a3, a4, some (.int x), a6] st σ Q = ax k_M_whyNot 50 [a0, a1, a2, a3, a4, some (.int x), a6] (.int x :: st) σ Q := ru_loc (q := (_, _)) f_M_whyNot_48 rfl rfl rfl
theorem f_M_whyNot_50 : am_cd k_M_whyNot 50 = some ((some .int), .invokevirtual 289, (159, 5, 1300, 0, 11, .null)) := rfl
theorem s_M_whyNot_50 {ls : am_L} {st : List Value} {σ : am_H} {Q : Option Value → am_H → Prop} {p0 : Int32} {p1 : Int32} {p2 : Int32} {p3 : Int32} {p4 : Int32} {b : Nat} (hi : am_is σ b 11) (h8 : am_s8 st) : ax k_M_whyNot 50 ls (.int p4 :: .int p3 :: .int p2 :: .int p1 :: .int p0 :: .ref b :: st) σ Q = ax k_M_lets 0 [some (.ref b), some (.int p0), some (.int p1), some (.int p2), some (.int p3), some (.int p4), none] [] σ (ax_k k_M_whyNot 53 ls st Q) := ru_vir (M' := rk_M_lets) f_M_whyNot_50 rfl rfl rfl rfl hi h8 rfl rfl rfl rfl rfl
theorem f_M_whyNot_53 : am_cd k_M_whyNot 53 = some ((some .int), .ifCond .eq 6, (59, 0, 0, 0, 0, .null)) := rfl
theorem s_M_whyNot_53 {ls : am_L} {st : List Value} {σ : am_H} {Q : Option Value → am_H → Prop} {x : Int32} : ax k_M_whyNot 53 ls (.int x :: st) σ Q = (if x = 0 then ax k_M_whyNot 59 ls st σ Q else ax k_M_whyNot 56 ls st σ Q) := (ru_if f_M_whyNot_53 rfl).trans (ru_i_eq _ _ _ _)
theorem f_M_whyNot_56 : am_cd k_M_whyNot 56 = some ((some .int), .goto 11, (67, 0, 0, 0, 0, .null)) := rfl
theorem s_M_whyNot_56 {ls : am_L} {st : List Value} {σ : am_H} {Q : Option Value → am_H → Prop} : ax k_M_whyNot 56 ls st σ Q = ax k_M_whyNot 67 ls st σ Q := ru_goto f_M_whyNot_56
theorem f_M_whyNot_59 : am_cd k_M_whyNot 59 = some ((some .int), .aload_n 0, (0, 0, 0, 0, 0, .null)) := rfl
theorem s_M_whyNot_59 {a1 a2 a3 a4 a5 a6 : Option Value} {st : List Value} {σ : am_H} {Q : Option Value → am_H → Prop} {x : Nat} : ax k_M_whyNot 59 [some (.ref x), a1, a2, a3, a4, a5, a6] st σ Q = ax k_M_whyNot 60 [some (.ref x), a1, a2, a3, a4, a5, a6] (.ref x :: st) σ Q := ru_loc (q := (_, _)) f_M_whyNot_59 rfl rfl rfl
theorem f_M_whyNot_60 : am_cd k_M_whyNot 60 = some ((some .int), .iload 6, (0, 0, 0, 0, 0, .null)) := rfl
theorem s_M_whyNot_60 {a0 a1 a2 a3 a4 a5 : Option Value} {st : List Value} {σ : am_H} {Q : Option Value → am_H → Prop} {x : Int32} : ax k_M_whyNot 60 [a0, a1, a2, a3, a4, a5, some (.int x)] st σ Q = ax k_M_whyNot 62 [a0, a1, a2, a3, a4, a5, some (.int x)] (.int x :: st) σ Q := ru_loc (q := (_, _)) f_M_whyNot_60 rfl rfl rfl
theorem f_M_whyNot_62 : am_cd k_M_whyNot 62 = some ((some .int), .putfield 286, (11, 44, 961, 0, 0, .null)) := rfl
theorem s_M_whyNot_62 {ls : am_L} {st : List Value} {σ : am_H} {Q : Option Value → am_H → Prop} {a : Nat} {v : Value} : ax k_M_whyNot 62 ls (v :: .ref a :: st) σ Q = ax_f (am_fld σ a 11 44) (fun _ => a < am_top ∧ am_okv 0 v = true ∧ ax k_M_whyNot 65 ls st (am_put σ a 44 v) Q) := ru_putf f_M_whyNot_62 rfl
theorem f_M_whyNot_65 : am_cd k_M_whyNot 65 = some ((some .int), .iconst 2, (0, 0, 0, 0, 0, .null)) := rfl
theorem s_M_whyNot_65 {ls : am_L} {st : List Value} {σ : am_H} {Q : Option Value → am_H → Prop} : ax k_M_whyNot 65 ls st σ Q = ax k_M_whyNot 66 ls (.int 2 :: st) σ Q := ru_iconst f_M_whyNot_65 (by decide +kernel) rfl
theorem f_M_whyNot_66 : am_cd k_M_whyNot 66 = some ((some .int), .ireturn, (0, 0, 0, 0, 0, .null)) := rfl
theorem s_M_whyNot_66 {ls : am_L} {σ : am_H} {Q : Option Value → am_H → Prop} {v : Int32} : ax k_M_whyNot 66 ls [.int v] σ Q = Q (some (.int v)) σ := ru_iretI f_M_whyNot_66
theorem f_M_whyNot_67 : am_cd k_M_whyNot 67 = some ((some .int), .iinc 6 1, (0, 0, 0, 0, 0, .null)) := rfl
theorem s_M_whyNot_67 {a0 a1 a2 a3 a4 a5 : Option Value} {st : List Value} {σ : am_H} {Q : Option Value → am_H → Prop} {x : Int32} (hc : am_c2 a5 = false) : ax k_M_whyNot 67 [a0, a1, a2, a3, a4, a5, some (.int x)] st σ Q = ax k_M_whyNot 70 [a0, a1, a2, a3, a4, a5, some (.int (x + 1))] st σ Q := ru_iinc f_M_whyNot_67 rfl (Nat.le_of_ble_eq_true rfl) (by decide +kernel) (ru_st1 (Nat.le_of_ble_eq_true rfl) (am_clr_c2 hc rfl) rfl) rfl
theorem f_M_whyNot_70 : am_cd k_M_whyNot 70 = some ((some .int), .goto (-44), (26, 0, 0, 0, 0, .null)) := rfl
theorem s_M_whyNot_70 {ls : am_L} {st : List Value} {σ : am_H} {Q : Option Value → am_H → Prop} : ax k_M_whyNot 70 ls st σ Q = ax k_M_whyNot 26 ls st σ Q := ru_goto f_M_whyNot_70
theorem f_M_whyNot_73 : am_cd k_M_whyNot 73 = some ((some .int), .iconst 0, (0, 0, 0, 0, 0, .null)) := rfl
theorem s_M_whyNot_73 {ls : am_L} {st : List Value} {σ : am_H} {Q : Option Value → am_H → Prop} : ax k_M_whyNot 73 ls st σ Q = ax k_M_whyNot 74 ls (.int 0 :: st) σ Q := ru_iconst f_M_whyNot_73 (by decide +kernel) rfl
theorem f_M_whyNot_74 : am_cd k_M_whyNot 74 = some ((some .int), .istore 6, (0, 0, 0, 0, 0, .null)) := rfl
theorem s_M_whyNot_74 {a0 a1 a2 a3 a4 a5 a6 : Option Value} {st : List Value} {σ : am_H} {Q : Option Value → am_H → Prop} {x : Int32} (hc : am_c2 a5 = false) : ax k_M_whyNot 74 [a0, a1, a2, a3, a4, a5, a6] (.int x :: st) σ Q = ax k_M_whyNot 76 [a0, a1, a2, a3, a4, a5, some (.int x)] st σ Q := ru_istore f_M_whyNot_74 (Nat.le_of_ble_eq_true rfl) (ru_st1 (Nat.le_of_ble_eq_true rfl) (am_clr_c2 hc rfl) rfl) rfl
theorem f_M_whyNot_76 : am_cd k_M_whyNot 76 = some ((some .int), .iload 6, (0, 0, 0, 0, 0, .null)) := rfl
theorem s_M_whyNot_76 {a0 a1 a2 a3 a4 a5 : Option Value} {st : List Value} {σ : am_H} {Q : Option Value → am_H → Prop} {x : Int32} : ax k_M_whyNot 76 [a0, a1, a2, a3, a4, a5, some (.int x)] st σ Q = ax k_M_whyNot 78 [a0, a1, a2, a3, a4, a5, some (.int x)] (.int x :: st) σ Q := ru_loc (q := (_, _)) f_M_whyNot_76 rfl rfl rfl
theorem f_M_whyNot_78 : am_cd k_M_whyNot 78 = some ((some .int), .bipush 16, (0, 0, 0, 0, 0, .null)) := rfl
theorem s_M_whyNot_78 {ls : am_L} {st : List Value} {σ : am_H} {Q : Option Value → am_H → Prop} : ax k_M_whyNot 78 ls st σ Q = ax k_M_whyNot 80 ls (.int 16 :: st) σ Q := ru_bipush f_M_whyNot_78 (by decide +kernel) rfl
theorem f_M_whyNot_80 : am_cd k_M_whyNot 80 = some ((some .int), .if_icmp .ge 47, (127, 0, 0, 0, 0, .null)) := rfl
theorem s_M_whyNot_80 {ls : am_L} {st : List Value} {σ : am_H} {Q : Option Value → am_H → Prop} {x y : Int32} : ax k_M_whyNot 80 ls (.int y :: .int x :: st) σ Q = (if x < y then ax k_M_whyNot 83 ls st σ Q else ax k_M_whyNot 127 ls st σ Q) := (ru_icmp f_M_whyNot_80 rfl).trans (ru_i_ge _ _ _ _)
theorem f_M_whyNot_83 : am_cd k_M_whyNot 83 = some ((some .int), .aload_n 0, (0, 0, 0, 0, 0, .null)) := rfl
theorem s_M_whyNot_83 {a1 a2 a3 a4 a5 a6 : Option Value} {st : List Value} {σ : am_H} {Q : Option Value → am_H → Prop} {x : Nat} : ax k_M_whyNot 83 [some (.ref x), a1, a2, a3, a4, a5, a6] st σ Q = ax k_M_whyNot 84 [some (.ref x), a1, a2, a3, a4, a5, a6] (.ref x :: st) σ Q := ru_loc (q := (_, _)) f_M_whyNot_83 rfl rfl rfl
theorem f_M_whyNot_84 : am_cd k_M_whyNot 84 = some ((some .int), .getfield 28, (11, 11, 928, 0, 3, .null)) := rfl
theorem s_M_whyNot_84 {ls : am_L} {st : List Value} {σ : am_H} {Q : Option Value → am_H → Prop} {a : Nat} : ax k_M_whyNot 84 ls (.ref a :: st) σ Q = ax_f (am_fld σ a 11 11) (fun v => ax k_M_whyNot 87 ls (v :: st) σ Q) := ru_getf f_M_whyNot_84 rfl
theorem f_M_whyNot_87 : am_cd k_M_whyNot 87 = some ((some .int), .iload_n 1, (0, 0, 0, 0, 0, .null)) := rfl
theorem s_M_whyNot_87 {a0 a2 a3 a4 a5 a6 : Option Value} {st : List Value} {σ : am_H} {Q : Option Value → am_H → Prop} {x : Int32} : ax k_M_whyNot 87 [a0, some (.int x), a2, a3, a4, a5, a6] st σ Q = ax k_M_whyNot 88 [a0, some (.int x), a2, a3, a4, a5, a6] (.int x :: st) σ Q := ru_loc (q := (_, _)) f_M_whyNot_87 rfl rfl rfl
theorem f_M_whyNot_88 : am_cd k_M_whyNot 88 = some ((some .int), .iaload, (0, 0, 0, 0, 0, .null)) := rfl
theorem s_M_whyNot_88 {ls : am_L} {st : List Value} {σ : am_H} {Q : Option Value → am_H → Prop} {a : Nat} {j : Int32} : ax k_M_whyNot 88 ls (.int j :: .ref a :: st) σ Q = ax_f (am_j σ a) (fun q => q.1 = 0 ∧ am_ix j q.2.1 ∧ ax k_M_whyNot 89 ls (.int (q.2.2 j.toNatClampNeg) :: st) σ Q) := rv_iald f_M_whyNot_88 rfl
theorem f_M_whyNot_89 : am_cd k_M_whyNot 89 = some ((some .int), .iload 6, (0, 0, 0, 0, 0, .null)) := rfl
theorem s_M_whyNot_89 {a0 a1 a2 a3 a4 a5 : Option Value} {st : List Value} {σ : am_H} {Q : Option Value → am_H → Prop} {x : Int32} : ax k_M_whyNot 89 [a0, a1, a2, a3, a4, a5, some (.int x)] st σ Q = ax k_M_whyNot 91 [a0, a1, a2, a3, a4, a5, some (.int x)] (.int x :: st) σ Q := ru_loc (q := (_, _)) f_M_whyNot_89 rfl rfl rfl
theorem f_M_whyNot_91 : am_cd k_M_whyNot 91 = some ((some .int), .ishr, (0, 0, 0, 0, 0, .null)) := rfl
theorem s_M_whyNot_91 {ls : am_L} {st : List Value} {σ : am_H} {Q : Option Value → am_H → Prop} {x y : Int32} : ax k_M_whyNot 91 ls (.int y :: .int x :: st) σ Q = ax k_M_whyNot 92 ls (.int (x >>> (y &&& 31)) :: st) σ Q := ru_pure f_M_whyNot_91 rfl rfl
theorem f_M_whyNot_92 : am_cd k_M_whyNot 92 = some ((some .int), .iconst 1, (0, 0, 0, 0, 0, .null)) := rfl
theorem s_M_whyNot_92 {ls : am_L} {st : List Value} {σ : am_H} {Q : Option Value → am_H → Prop} : ax k_M_whyNot 92 ls st σ Q = ax k_M_whyNot 93 ls (.int 1 :: st) σ Q := ru_iconst f_M_whyNot_92 (by decide +kernel) rfl
theorem f_M_whyNot_93 : am_cd k_M_whyNot 93 = some ((some .int), .iand, (0, 0, 0, 0, 0, .null)) := rfl
theorem s_M_whyNot_93 {ls : am_L} {st : List Value} {σ : am_H} {Q : Option Value → am_H → Prop} {x y : Int32} : ax k_M_whyNot 93 ls (.int y :: .int x :: st) σ Q = ax k_M_whyNot 94 ls (.int (x &&& y) :: st) σ Q := ru_pure f_M_whyNot_93 rfl rfl
theorem f_M_whyNot_94 : am_cd k_M_whyNot 94 = some ((some .int), .ifCond .eq 27, (121, 0, 0, 0, 0, .null)) := rfl
theorem s_M_whyNot_94 {ls : am_L} {st : List Value} {σ : am_H} {Q : Option Value → am_H → Prop} {x : Int32} : ax k_M_whyNot 94 ls (.int x :: st) σ Q = (if x = 0 then ax k_M_whyNot 121 ls st σ Q else ax k_M_whyNot 97 ls st σ Q) := (ru_if f_M_whyNot_94 rfl).trans (ru_i_eq _ _ _ _)
theorem f_M_whyNot_97 : am_cd k_M_whyNot 97 = some ((some .int), .aload_n 0, (0, 0, 0, 0, 0, .null)) := rfl
theorem s_M_whyNot_97 {a1 a2 a3 a4 a5 a6 : Option Value} {st : List Value} {σ : am_H} {Q : Option Value → am_H → Prop} {x : Nat} : ax k_M_whyNot 97 [some (.ref x), a1, a2, a3, a4, a5, a6] st σ Q = ax k_M_whyNot 98 [some (.ref x), a1, a2, a3, a4, a5, a6] (.ref x :: st) σ Q := ru_loc (q := (_, _)) f_M_whyNot_97 rfl rfl rfl
theorem f_M_whyNot_98 : am_cd k_M_whyNot 98 = some ((some .int), .iload 6, (0, 0, 0, 0, 0, .null)) := rfl
theorem s_M_whyNot_98 {a0 a1 a2 a3 a4 a5 : Option Value} {st : List Value} {σ : am_H} {Q : Option Value → am_H → Prop} {x : Int32} : ax k_M_whyNot 98 [a0, a1, a2, a3, a4, a5, some (.int x)] st σ Q = ax k_M_whyNot 100 [a0, a1, a2, a3, a4, a5, some (.int x)] (.int x :: st) σ Q := ru_loc (q := (_, _)) f_M_whyNot_98 rfl rfl rfl
theorem f_M_whyNot_100 : am_cd k_M_whyNot 100 = some ((some .int), .aload_n 0, (0, 0, 0, 0, 0, .null)) := rfl
theorem s_M_whyNot_100 {a1 a2 a3 a4 a5 a6 : Option Value} {st : List Value} {σ : am_H} {Q : Option Value → am_H → Prop} {x : Nat} : ax k_M_whyNot 100 [some (.ref x), a1, a2, a3, a4, a5, a6] st σ Q = ax k_M_whyNot 101 [some (.ref x), a1, a2, a3, a4, a5, a6] (.ref x :: st) σ Q := ru_loc (q := (_, _)) f_M_whyNot_100 rfl rfl rfl
theorem f_M_whyNot_101 : am_cd k_M_whyNot 101 = some ((some .int), .getfield 161, (11, 0, 917, 0, 0, .null)) := rfl
theorem s_M_whyNot_101 {ls : am_L} {st : List Value} {σ : am_H} {Q : Option Value → am_H → Prop} {a : Nat} : ax k_M_whyNot 101 ls (.ref a :: st) σ Q = ax_f (am_fld σ a 11 0) (fun v => ax k_M_whyNot 104 ls (v :: st) σ Q) := ru_getf f_M_whyNot_101 rfl
theorem f_M_whyNot_104 : am_cd k_M_whyNot 104 = some ((some .int), .invokevirtual 225, (140, 2, 1219, 0, 11, .null)) := rfl
theorem s_M_whyNot_104 {ls : am_L} {st : List Value} {σ : am_H} {Q : Option Value → am_H → Prop} {p0 : Int32} {p1 : Int32} {b : Nat} (hi : am_is σ b 11) (h8 : am_s8 st) : ax k_M_whyNot 104 ls (.int p1 :: .int p0 :: .ref b :: st) σ Q = ax k_M_hasLeave 0 [some (.ref b), some (.int p0), some (.int p1), none, none] [] σ (ax_k k_M_whyNot 107 ls st Q) := ru_vir (M' := rk_M_hasLeave) f_M_whyNot_104 rfl rfl rfl rfl hi h8 rfl rfl rfl rfl rfl
theorem f_M_whyNot_107 : am_cd k_M_whyNot 107 = some ((some .int), .ifCond .eq 6, (113, 0, 0, 0, 0, .null)) := rfl
theorem s_M_whyNot_107 {ls : am_L} {st : List Value} {σ : am_H} {Q : Option Value → am_H → Prop} {x : Int32} : ax k_M_whyNot 107 ls (.int x :: st) σ Q = (if x = 0 then ax k_M_whyNot 113 ls st σ Q else ax k_M_whyNot 110 ls st σ Q) := (ru_if f_M_whyNot_107 rfl).trans (ru_i_eq _ _ _ _)
theorem f_M_whyNot_110 : am_cd k_M_whyNot 110 = some ((some .int), .goto 11, (121, 0, 0, 0, 0, .null)) := rfl
theorem s_M_whyNot_110 {ls : am_L} {st : List Value} {σ : am_H} {Q : Option Value → am_H → Prop} : ax k_M_whyNot 110 ls st σ Q = ax k_M_whyNot 121 ls st σ Q := ru_goto f_M_whyNot_110
theorem f_M_whyNot_113 : am_cd k_M_whyNot 113 = some ((some .int), .aload_n 0, (0, 0, 0, 0, 0, .null)) := rfl
theorem s_M_whyNot_113 {a1 a2 a3 a4 a5 a6 : Option Value} {st : List Value} {σ : am_H} {Q : Option Value → am_H → Prop} {x : Nat} : ax k_M_whyNot 113 [some (.ref x), a1, a2, a3, a4, a5, a6] st σ Q = ax k_M_whyNot 114 [some (.ref x), a1, a2, a3, a4, a5, a6] (.ref x :: st) σ Q := ru_loc (q := (_, _)) f_M_whyNot_113 rfl rfl rfl
theorem f_M_whyNot_114 : am_cd k_M_whyNot 114 = some ((some .int), .iload 6, (0, 0, 0, 0, 0, .null)) := rfl
theorem s_M_whyNot_114 {a0 a1 a2 a3 a4 a5 : Option Value} {st : List Value} {σ : am_H} {Q : Option Value → am_H → Prop} {x : Int32} : ax k_M_whyNot 114 [a0, a1, a2, a3, a4, a5, some (.int x)] st σ Q = ax k_M_whyNot 116 [a0, a1, a2, a3, a4, a5, some (.int x)] (.int x :: st) σ Q := ru_loc (q := (_, _)) f_M_whyNot_114 rfl rfl rfl
theorem f_M_whyNot_116 : am_cd k_M_whyNot 116 = some ((some .int), .putfield 286, (11, 44, 961, 0, 0, .null)) := rfl
theorem s_M_whyNot_116 {ls : am_L} {st : List Value} {σ : am_H} {Q : Option Value → am_H → Prop} {a : Nat} {v : Value} : ax k_M_whyNot 116 ls (v :: .ref a :: st) σ Q = ax_f (am_fld σ a 11 44) (fun _ => a < am_top ∧ am_okv 0 v = true ∧ ax k_M_whyNot 119 ls st (am_put σ a 44 v) Q) := ru_putf f_M_whyNot_116 rfl
theorem f_M_whyNot_119 : am_cd k_M_whyNot 119 = some ((some .int), .iconst 3, (0, 0, 0, 0, 0, .null)) := rfl
theorem s_M_whyNot_119 {ls : am_L} {st : List Value} {σ : am_H} {Q : Option Value → am_H → Prop} : ax k_M_whyNot 119 ls st σ Q = ax k_M_whyNot 120 ls (.int 3 :: st) σ Q := ru_iconst f_M_whyNot_119 (by decide +kernel) rfl
theorem f_M_whyNot_120 : am_cd k_M_whyNot 120 = some ((some .int), .ireturn, (0, 0, 0, 0, 0, .null)) := rfl
theorem s_M_whyNot_120 {ls : am_L} {σ : am_H} {Q : Option Value → am_H → Prop} {v : Int32} : ax k_M_whyNot 120 ls [.int v] σ Q = Q (some (.int v)) σ := ru_iretI f_M_whyNot_120
theorem f_M_whyNot_121 : am_cd k_M_whyNot 121 = some ((some .int), .iinc 6 1, (0, 0, 0, 0, 0, .null)) := rfl
theorem s_M_whyNot_121 {a0 a1 a2 a3 a4 a5 : Option Value} {st : List Value} {σ : am_H} {Q : Option Value → am_H → Prop} {x : Int32} (hc : am_c2 a5 = false) : ax k_M_whyNot 121 [a0, a1, a2, a3, a4, a5, some (.int x)] st σ Q = ax k_M_whyNot 124 [a0, a1, a2, a3, a4, a5, some (.int (x + 1))] st σ Q := ru_iinc f_M_whyNot_121 rfl (Nat.le_of_ble_eq_true rfl) (by decide +kernel) (ru_st1 (Nat.le_of_ble_eq_true rfl) (am_clr_c2 hc rfl) rfl) rfl
theorem f_M_whyNot_124 : am_cd k_M_whyNot 124 = some ((some .int), .goto (-48), (76, 0, 0, 0, 0, .null)) := rfl
theorem s_M_whyNot_124 {ls : am_L} {st : List Value} {σ : am_H} {Q : Option Value → am_H → Prop} : ax k_M_whyNot 124 ls st σ Q = ax k_M_whyNot 76 ls st σ Q := ru_goto f_M_whyNot_124
theorem f_M_whyNot_127 : am_cd k_M_whyNot 127 = some ((some .int), .aload_n 0, (0, 0, 0, 0, 0, .null)) := rfl
theorem s_M_whyNot_127 {a1 a2 a3 a4 a5 a6 : Option Value} {st : List Value} {σ : am_H} {Q : Option Value → am_H → Prop} {x : Nat} : ax k_M_whyNot 127 [some (.ref x), a1, a2, a3, a4, a5, a6] st σ Q = ax k_M_whyNot 128 [some (.ref x), a1, a2, a3, a4, a5, a6] (.ref x :: st) σ Q := ru_loc (q := (_, _)) f_M_whyNot_127 rfl rfl rfl
theorem f_M_whyNot_128 : am_cd k_M_whyNot 128 = some ((some .int), .iload_n 1, (0, 0, 0, 0, 0, .null)) := rfl
theorem s_M_whyNot_128 {a0 a2 a3 a4 a5 a6 : Option Value} {st : List Value} {σ : am_H} {Q : Option Value → am_H → Prop} {x : Int32} : ax k_M_whyNot 128 [a0, some (.int x), a2, a3, a4, a5, a6] st σ Q = ax k_M_whyNot 129 [a0, some (.int x), a2, a3, a4, a5, a6] (.int x :: st) σ Q := ru_loc (q := (_, _)) f_M_whyNot_128 rfl rfl rfl
theorem f_M_whyNot_129 : am_cd k_M_whyNot 129 = some ((some .int), .invokevirtual 211, (135, 1, 1203, 0, 11, .null)) := rfl
theorem s_M_whyNot_129 {ls : am_L} {st : List Value} {σ : am_H} {Q : Option Value → am_H → Prop} {p0 : Int32} {b : Nat} (hi : am_is σ b 11) (h8 : am_s8 st) : ax k_M_whyNot 129 ls (.int p0 :: .ref b :: st) σ Q = ax k_M_spread 0 [some (.ref b), some (.int p0), none, none, none] [] σ (ax_k k_M_whyNot 132 ls st Q) := ru_vir (M' := rk_M_spread) f_M_whyNot_129 rfl rfl rfl rfl hi h8 rfl rfl rfl rfl rfl
theorem f_M_whyNot_132 : am_cd k_M_whyNot 132 = some ((some .int), .iconst 0, (0, 0, 0, 0, 0, .null)) := rfl
theorem s_M_whyNot_132 {ls : am_L} {st : List Value} {σ : am_H} {Q : Option Value → am_H → Prop} : ax k_M_whyNot 132 ls st σ Q = ax k_M_whyNot 133 ls (.int 0 :: st) σ Q := ru_iconst f_M_whyNot_132 (by decide +kernel) rfl
theorem f_M_whyNot_133 : am_cd k_M_whyNot 133 = some ((some .int), .istore 6, (0, 0, 0, 0, 0, .null)) := rfl
theorem s_M_whyNot_133 {a0 a1 a2 a3 a4 a5 a6 : Option Value} {st : List Value} {σ : am_H} {Q : Option Value → am_H → Prop} {x : Int32} (hc : am_c2 a5 = false) : ax k_M_whyNot 133 [a0, a1, a2, a3, a4, a5, a6] (.int x :: st) σ Q = ax k_M_whyNot 135 [a0, a1, a2, a3, a4, a5, some (.int x)] st σ Q := ru_istore f_M_whyNot_133 (Nat.le_of_ble_eq_true rfl) (ru_st1 (Nat.le_of_ble_eq_true rfl) (am_clr_c2 hc rfl) rfl) rfl
theorem f_M_whyNot_135 : am_cd k_M_whyNot 135 = some ((some .int), .iload 6, (0, 0, 0, 0, 0, .null)) := rfl
theorem s_M_whyNot_135 {a0 a1 a2 a3 a4 a5 : Option Value} {st : List Value} {σ : am_H} {Q : Option Value → am_H → Prop} {x : Int32} : ax k_M_whyNot 135 [a0, a1, a2, a3, a4, a5, some (.int x)] st σ Q = ax k_M_whyNot 137 [a0, a1, a2, a3, a4, a5, some (.int x)] (.int x :: st) σ Q := ru_loc (q := (_, _)) f_M_whyNot_135 rfl rfl rfl
theorem f_M_whyNot_137 : am_cd k_M_whyNot 137 = some ((some .int), .aload_n 0, (0, 0, 0, 0, 0, .null)) := rfl
theorem s_M_whyNot_137 {a1 a2 a3 a4 a5 a6 : Option Value} {st : List Value} {σ : am_H} {Q : Option Value → am_H → Prop} {x : Nat} : ax k_M_whyNot 137 [some (.ref x), a1, a2, a3, a4, a5, a6] st σ Q = ax k_M_whyNot 138 [some (.ref x), a1, a2, a3, a4, a5, a6] (.ref x :: st) σ Q := ru_loc (q := (_, _)) f_M_whyNot_137 rfl rfl rfl
theorem f_M_whyNot_138 : am_cd k_M_whyNot 138 = some ((some .int), .getfield 293, (11, 45, 962, 0, 0, .null)) := rfl
theorem s_M_whyNot_138 {ls : am_L} {st : List Value} {σ : am_H} {Q : Option Value → am_H → Prop} {a : Nat} : ax k_M_whyNot 138 ls (.ref a :: st) σ Q = ax_f (am_fld σ a 11 45) (fun v => ax k_M_whyNot 141 ls (v :: st) σ Q) := ru_getf f_M_whyNot_138 rfl
theorem f_M_whyNot_141 : am_cd k_M_whyNot 141 = some ((some .int), .if_icmp .ge 70, (211, 0, 0, 0, 0, .null)) := rfl
theorem s_M_whyNot_141 {ls : am_L} {st : List Value} {σ : am_H} {Q : Option Value → am_H → Prop} {x y : Int32} : ax k_M_whyNot 141 ls (.int y :: .int x :: st) σ Q = (if x < y then ax k_M_whyNot 144 ls st σ Q else ax k_M_whyNot 211 ls st σ Q) := (ru_icmp f_M_whyNot_141 rfl).trans (ru_i_ge _ _ _ _)
theorem f_M_whyNot_144 : am_cd k_M_whyNot 144 = some ((some .int), .aload_n 0, (0, 0, 0, 0, 0, .null)) := rfl
theorem s_M_whyNot_144 {a1 a2 a3 a4 a5 a6 : Option Value} {st : List Value} {σ : am_H} {Q : Option Value → am_H → Prop} {x : Nat} : ax k_M_whyNot 144 [some (.ref x), a1, a2, a3, a4, a5, a6] st σ Q = ax k_M_whyNot 145 [some (.ref x), a1, a2, a3, a4, a5, a6] (.ref x :: st) σ Q := ru_loc (q := (_, _)) f_M_whyNot_144 rfl rfl rfl
theorem f_M_whyNot_145 : am_cd k_M_whyNot 145 = some ((some .int), .getfield 136, (11, 56, 973, 0, 3, .null)) := rfl
theorem s_M_whyNot_145 {ls : am_L} {st : List Value} {σ : am_H} {Q : Option Value → am_H → Prop} {a : Nat} : ax k_M_whyNot 145 ls (.ref a :: st) σ Q = ax_f (am_fld σ a 11 56) (fun v => ax k_M_whyNot 148 ls (v :: st) σ Q) := ru_getf f_M_whyNot_145 rfl
theorem f_M_whyNot_148 : am_cd k_M_whyNot 148 = some ((some .int), .iload 6, (0, 0, 0, 0, 0, .null)) := rfl
theorem s_M_whyNot_148 {a0 a1 a2 a3 a4 a5 : Option Value} {st : List Value} {σ : am_H} {Q : Option Value → am_H → Prop} {x : Int32} : ax k_M_whyNot 148 [a0, a1, a2, a3, a4, a5, some (.int x)] st σ Q = ax k_M_whyNot 150 [a0, a1, a2, a3, a4, a5, some (.int x)] (.int x :: st) σ Q := ru_loc (q := (_, _)) f_M_whyNot_148 rfl rfl rfl
theorem f_M_whyNot_150 : am_cd k_M_whyNot 150 = some ((some .int), .baload, (0, 0, 0, 0, 0, .null)) := rfl
theorem s_M_whyNot_150 {ls : am_L} {st : List Value} {σ : am_H} {Q : Option Value → am_H → Prop} {a : Nat} {j : Int32} : ax k_M_whyNot 150 ls (.int j :: .ref a :: st) σ Q = ax_f (am_j σ a) (fun q => (q.1 = 1 ∨ q.1 = 2) ∧ am_ix j q.2.1 ∧ ax k_M_whyNot 151 ls (.int (q.2.2 j.toNatClampNeg) :: st) σ Q) := rv_bald f_M_whyNot_150 rfl
theorem f_M_whyNot_151 : am_cd k_M_whyNot 151 = some ((some .int), .ifCond .ne 54, (205, 0, 0, 0, 0, .null)) := rfl
theorem s_M_whyNot_151 {ls : am_L} {st : List Value} {σ : am_H} {Q : Option Value → am_H → Prop} {x : Int32} : ax k_M_whyNot 151 ls (.int x :: st) σ Q = (if x = 0 then ax k_M_whyNot 154 ls st σ Q else ax k_M_whyNot 205 ls st σ Q) := (ru_if f_M_whyNot_151 rfl).trans (ru_i_ne _ _ _ _)
theorem f_M_whyNot_154 : am_cd k_M_whyNot 154 = some ((some .int), .aload_n 0, (0, 0, 0, 0, 0, .null)) := rfl
theorem s_M_whyNot_154 {a1 a2 a3 a4 a5 a6 : Option Value} {st : List Value} {σ : am_H} {Q : Option Value → am_H → Prop} {x : Nat} : ax k_M_whyNot 154 [some (.ref x), a1, a2, a3, a4, a5, a6] st σ Q = ax k_M_whyNot 155 [some (.ref x), a1, a2, a3, a4, a5, a6] (.ref x :: st) σ Q := ru_loc (q := (_, _)) f_M_whyNot_154 rfl rfl rfl
theorem f_M_whyNot_155 : am_cd k_M_whyNot 155 = some ((some .int), .getfield 121, (11, 51, 968, 0, 3, .null)) := rfl
theorem s_M_whyNot_155 {ls : am_L} {st : List Value} {σ : am_H} {Q : Option Value → am_H → Prop} {a : Nat} : ax k_M_whyNot 155 ls (.ref a :: st) σ Q = ax_f (am_fld σ a 11 51) (fun v => ax k_M_whyNot 158 ls (v :: st) σ Q) := ru_getf f_M_whyNot_155 rfl
theorem f_M_whyNot_158 : am_cd k_M_whyNot 158 = some ((some .int), .iload 6, (0, 0, 0, 0, 0, .null)) := rfl
theorem s_M_whyNot_158 {a0 a1 a2 a3 a4 a5 : Option Value} {st : List Value} {σ : am_H} {Q : Option Value → am_H → Prop} {x : Int32} : ax k_M_whyNot 158 [a0, a1, a2, a3, a4, a5, some (.int x)] st σ Q = ax k_M_whyNot 160 [a0, a1, a2, a3, a4, a5, some (.int x)] (.int x :: st) σ Q := ru_loc (q := (_, _)) f_M_whyNot_158 rfl rfl rfl
theorem f_M_whyNot_160 : am_cd k_M_whyNot 160 = some ((some .int), .iaload, (0, 0, 0, 0, 0, .null)) := rfl
theorem s_M_whyNot_160 {ls : am_L} {st : List Value} {σ : am_H} {Q : Option Value → am_H → Prop} {a : Nat} {j : Int32} : ax k_M_whyNot 160 ls (.int j :: .ref a :: st) σ Q = ax_f (am_j σ a) (fun q => q.1 = 0 ∧ am_ix j q.2.1 ∧ ax k_M_whyNot 161 ls (.int (q.2.2 j.toNatClampNeg) :: st) σ Q) := rv_iald f_M_whyNot_160 rfl
theorem f_M_whyNot_161 : am_cd k_M_whyNot 161 = some ((some .int), .aload_n 0, (0, 0, 0, 0, 0, .null)) := rfl
theorem s_M_whyNot_161 {a1 a2 a3 a4 a5 a6 : Option Value} {st : List Value} {σ : am_H} {Q : Option Value → am_H → Prop} {x : Nat} : ax k_M_whyNot 161 [some (.ref x), a1, a2, a3, a4, a5, a6] st σ Q = ax k_M_whyNot 162 [some (.ref x), a1, a2, a3, a4, a5, a6] (.ref x :: st) σ Q := ru_loc (q := (_, _)) f_M_whyNot_161 rfl rfl rfl
theorem f_M_whyNot_162 : am_cd k_M_whyNot 162 = some ((some .int), .getfield 161, (11, 0, 917, 0, 0, .null)) := rfl
theorem s_M_whyNot_162 {ls : am_L} {st : List Value} {σ : am_H} {Q : Option Value → am_H → Prop} {a : Nat} : ax k_M_whyNot 162 ls (.ref a :: st) σ Q = ax_f (am_fld σ a 11 0) (fun v => ax k_M_whyNot 165 ls (v :: st) σ Q) := ru_getf f_M_whyNot_162 rfl
theorem f_M_whyNot_165 : am_cd k_M_whyNot 165 = some ((some .int), .if_icmp .lt 40, (205, 0, 0, 0, 0, .null)) := rfl
theorem s_M_whyNot_165 {ls : am_L} {st : List Value} {σ : am_H} {Q : Option Value → am_H → Prop} {x y : Int32} : ax k_M_whyNot 165 ls (.int y :: .int x :: st) σ Q = (if x < y then ax k_M_whyNot 205 ls st σ Q else ax k_M_whyNot 168 ls st σ Q) := (ru_icmp f_M_whyNot_165 rfl).trans (ru_i_lt _ _ _ _)
theorem f_M_whyNot_168 : am_cd k_M_whyNot 168 = some ((some .int), .aload_n 0, (0, 0, 0, 0, 0, .null)) := rfl
theorem s_M_whyNot_168 {a1 a2 a3 a4 a5 a6 : Option Value} {st : List Value} {σ : am_H} {Q : Option Value → am_H → Prop} {x : Nat} : ax k_M_whyNot 168 [some (.ref x), a1, a2, a3, a4, a5, a6] st σ Q = ax k_M_whyNot 169 [some (.ref x), a1, a2, a3, a4, a5, a6] (.ref x :: st) σ Q := ru_loc (q := (_, _)) f_M_whyNot_168 rfl rfl rfl
theorem f_M_whyNot_169 : am_cd k_M_whyNot 169 = some ((some .int), .getfield 109, (11, 47, 964, 0, 3, .null)) := rfl
theorem s_M_whyNot_169 {ls : am_L} {st : List Value} {σ : am_H} {Q : Option Value → am_H → Prop} {a : Nat} : ax k_M_whyNot 169 ls (.ref a :: st) σ Q = ax_f (am_fld σ a 11 47) (fun v => ax k_M_whyNot 172 ls (v :: st) σ Q) := ru_getf f_M_whyNot_169 rfl
theorem f_M_whyNot_172 : am_cd k_M_whyNot 172 = some ((some .int), .iload 6, (0, 0, 0, 0, 0, .null)) := rfl
theorem s_M_whyNot_172 {a0 a1 a2 a3 a4 a5 : Option Value} {st : List Value} {σ : am_H} {Q : Option Value → am_H → Prop} {x : Int32} : ax k_M_whyNot 172 [a0, a1, a2, a3, a4, a5, some (.int x)] st σ Q = ax k_M_whyNot 174 [a0, a1, a2, a3, a4, a5, some (.int x)] (.int x :: st) σ Q := ru_loc (q := (_, _)) f_M_whyNot_172 rfl rfl rfl
theorem f_M_whyNot_174 : am_cd k_M_whyNot 174 = some ((some .int), .iaload, (0, 0, 0, 0, 0, .null)) := rfl
theorem s_M_whyNot_174 {ls : am_L} {st : List Value} {σ : am_H} {Q : Option Value → am_H → Prop} {a : Nat} {j : Int32} : ax k_M_whyNot 174 ls (.int j :: .ref a :: st) σ Q = ax_f (am_j σ a) (fun q => q.1 = 0 ∧ am_ix j q.2.1 ∧ ax k_M_whyNot 175 ls (.int (q.2.2 j.toNatClampNeg) :: st) σ Q) := rv_iald f_M_whyNot_174 rfl
theorem f_M_whyNot_175 : am_cd k_M_whyNot 175 = some ((some .int), .iload_n 2, (0, 0, 0, 0, 0, .null)) := rfl
theorem s_M_whyNot_175 {a0 a1 a3 a4 a5 a6 : Option Value} {st : List Value} {σ : am_H} {Q : Option Value → am_H → Prop} {x : Int32} : ax k_M_whyNot 175 [a0, a1, some (.int x), a3, a4, a5, a6] st σ Q = ax k_M_whyNot 176 [a0, a1, some (.int x), a3, a4, a5, a6] (.int x :: st) σ Q := ru_loc (q := (_, _)) f_M_whyNot_175 rfl rfl rfl
theorem f_M_whyNot_176 : am_cd k_M_whyNot 176 = some ((some .int), .if_icmp .ne 29, (205, 0, 0, 0, 0, .null)) := rfl
theorem s_M_whyNot_176 {ls : am_L} {st : List Value} {σ : am_H} {Q : Option Value → am_H → Prop} {x y : Int32} : ax k_M_whyNot 176 ls (.int y :: .int x :: st) σ Q = (if x = y then ax k_M_whyNot 179 ls st σ Q else ax k_M_whyNot 205 ls st σ Q) := (ru_icmp f_M_whyNot_176 rfl).trans (ru_i_ne _ _ _ _)
theorem f_M_whyNot_179 : am_cd k_M_whyNot 179 = some ((some .int), .aload_n 0, (0, 0, 0, 0, 0, .null)) := rfl
theorem s_M_whyNot_179 {a1 a2 a3 a4 a5 a6 : Option Value} {st : List Value} {σ : am_H} {Q : Option Value → am_H → Prop} {x : Nat} : ax k_M_whyNot 179 [some (.ref x), a1, a2, a3, a4, a5, a6] st σ Q = ax k_M_whyNot 180 [some (.ref x), a1, a2, a3, a4, a5, a6] (.ref x :: st) σ Q := ru_loc (q := (_, _)) f_M_whyNot_179 rfl rfl rfl
theorem f_M_whyNot_180 : am_cd k_M_whyNot 180 = some ((some .int), .getfield 69, (11, 27, 944, 0, 3, .null)) := rfl
theorem s_M_whyNot_180 {ls : am_L} {st : List Value} {σ : am_H} {Q : Option Value → am_H → Prop} {a : Nat} : ax k_M_whyNot 180 ls (.ref a :: st) σ Q = ax_f (am_fld σ a 11 27) (fun v => ax k_M_whyNot 183 ls (v :: st) σ Q) := ru_getf f_M_whyNot_180 rfl
theorem f_M_whyNot_183 : am_cd k_M_whyNot 183 = some ((some .int), .aload_n 0, (0, 0, 0, 0, 0, .null)) := rfl
theorem s_M_whyNot_183 {a1 a2 a3 a4 a5 a6 : Option Value} {st : List Value} {σ : am_H} {Q : Option Value → am_H → Prop} {x : Nat} : ax k_M_whyNot 183 [some (.ref x), a1, a2, a3, a4, a5, a6] st σ Q = ax k_M_whyNot 184 [some (.ref x), a1, a2, a3, a4, a5, a6] (.ref x :: st) σ Q := ru_loc (q := (_, _)) f_M_whyNot_183 rfl rfl rfl
theorem f_M_whyNot_184 : am_cd k_M_whyNot 184 = some ((some .int), .getfield 106, (11, 46, 963, 0, 3, .null)) := rfl
theorem s_M_whyNot_184 {ls : am_L} {st : List Value} {σ : am_H} {Q : Option Value → am_H → Prop} {a : Nat} : ax k_M_whyNot 184 ls (.ref a :: st) σ Q = ax_f (am_fld σ a 11 46) (fun v => ax k_M_whyNot 187 ls (v :: st) σ Q) := ru_getf f_M_whyNot_184 rfl
theorem f_M_whyNot_187 : am_cd k_M_whyNot 187 = some ((some .int), .iload 6, (0, 0, 0, 0, 0, .null)) := rfl
theorem s_M_whyNot_187 {a0 a1 a2 a3 a4 a5 : Option Value} {st : List Value} {σ : am_H} {Q : Option Value → am_H → Prop} {x : Int32} : ax k_M_whyNot 187 [a0, a1, a2, a3, a4, a5, some (.int x)] st σ Q = ax k_M_whyNot 189 [a0, a1, a2, a3, a4, a5, some (.int x)] (.int x :: st) σ Q := ru_loc (q := (_, _)) f_M_whyNot_187 rfl rfl rfl
theorem f_M_whyNot_189 : am_cd k_M_whyNot 189 = some ((some .int), .iaload, (0, 0, 0, 0, 0, .null)) := rfl
theorem s_M_whyNot_189 {ls : am_L} {st : List Value} {σ : am_H} {Q : Option Value → am_H → Prop} {a : Nat} {j : Int32} : ax k_M_whyNot 189 ls (.int j :: .ref a :: st) σ Q = ax_f (am_j σ a) (fun q => q.1 = 0 ∧ am_ix j q.2.1 ∧ ax k_M_whyNot 190 ls (.int (q.2.2 j.toNatClampNeg) :: st) σ Q) := rv_iald f_M_whyNot_189 rfl
theorem f_M_whyNot_190 : am_cd k_M_whyNot 190 = some ((some .int), .baload, (0, 0, 0, 0, 0, .null)) := rfl
theorem s_M_whyNot_190 {ls : am_L} {st : List Value} {σ : am_H} {Q : Option Value → am_H → Prop} {a : Nat} {j : Int32} : ax k_M_whyNot 190 ls (.int j :: .ref a :: st) σ Q = ax_f (am_j σ a) (fun q => (q.1 = 1 ∨ q.1 = 2) ∧ am_ix j q.2.1 ∧ ax k_M_whyNot 191 ls (.int (q.2.2 j.toNatClampNeg) :: st) σ Q) := rv_bald f_M_whyNot_190 rfl
theorem f_M_whyNot_191 : am_cd k_M_whyNot 191 = some ((some .int), .ifCond .ne 6, (197, 0, 0, 0, 0, .null)) := rfl
theorem s_M_whyNot_191 {ls : am_L} {st : List Value} {σ : am_H} {Q : Option Value → am_H → Prop} {x : Int32} : ax k_M_whyNot 191 ls (.int x :: st) σ Q = (if x = 0 then ax k_M_whyNot 194 ls st σ Q else ax k_M_whyNot 197 ls st σ Q) := (ru_if f_M_whyNot_191 rfl).trans (ru_i_ne _ _ _ _)
theorem f_M_whyNot_194 : am_cd k_M_whyNot 194 = some ((some .int), .goto 11, (205, 0, 0, 0, 0, .null)) := rfl
theorem s_M_whyNot_194 {ls : am_L} {st : List Value} {σ : am_H} {Q : Option Value → am_H → Prop} : ax k_M_whyNot 194 ls st σ Q = ax k_M_whyNot 205 ls st σ Q := ru_goto f_M_whyNot_194
theorem f_M_whyNot_197 : am_cd k_M_whyNot 197 = some ((some .int), .aload_n 0, (0, 0, 0, 0, 0, .null)) := rfl
theorem s_M_whyNot_197 {a1 a2 a3 a4 a5 a6 : Option Value} {st : List Value} {σ : am_H} {Q : Option Value → am_H → Prop} {x : Nat} : ax k_M_whyNot 197 [some (.ref x), a1, a2, a3, a4, a5, a6] st σ Q = ax k_M_whyNot 198 [some (.ref x), a1, a2, a3, a4, a5, a6] (.ref x :: st) σ Q := ru_loc (q := (_, _)) f_M_whyNot_197 rfl rfl rfl
theorem f_M_whyNot_198 : am_cd k_M_whyNot 198 = some ((some .int), .iload 6, (0, 0, 0, 0, 0, .null)) := rfl
theorem s_M_whyNot_198 {a0 a1 a2 a3 a4 a5 : Option Value} {st : List Value} {σ : am_H} {Q : Option Value → am_H → Prop} {x : Int32} : ax k_M_whyNot 198 [a0, a1, a2, a3, a4, a5, some (.int x)] st σ Q = ax k_M_whyNot 200 [a0, a1, a2, a3, a4, a5, some (.int x)] (.int x :: st) σ Q := ru_loc (q := (_, _)) f_M_whyNot_198 rfl rfl rfl
theorem f_M_whyNot_200 : am_cd k_M_whyNot 200 = some ((some .int), .putfield 286, (11, 44, 961, 0, 0, .null)) := rfl
theorem s_M_whyNot_200 {ls : am_L} {st : List Value} {σ : am_H} {Q : Option Value → am_H → Prop} {a : Nat} {v : Value} : ax k_M_whyNot 200 ls (v :: .ref a :: st) σ Q = ax_f (am_fld σ a 11 44) (fun _ => a < am_top ∧ am_okv 0 v = true ∧ ax k_M_whyNot 203 ls st (am_put σ a 44 v) Q) := ru_putf f_M_whyNot_200 rfl
theorem f_M_whyNot_203 : am_cd k_M_whyNot 203 = some ((some .int), .iconst 4, (0, 0, 0, 0, 0, .null)) := rfl
theorem s_M_whyNot_203 {ls : am_L} {st : List Value} {σ : am_H} {Q : Option Value → am_H → Prop} : ax k_M_whyNot 203 ls st σ Q = ax k_M_whyNot 204 ls (.int 4 :: st) σ Q := ru_iconst f_M_whyNot_203 (by decide +kernel) rfl
theorem f_M_whyNot_204 : am_cd k_M_whyNot 204 = some ((some .int), .ireturn, (0, 0, 0, 0, 0, .null)) := rfl
theorem s_M_whyNot_204 {ls : am_L} {σ : am_H} {Q : Option Value → am_H → Prop} {v : Int32} : ax k_M_whyNot 204 ls [.int v] σ Q = Q (some (.int v)) σ := ru_iretI f_M_whyNot_204
theorem f_M_whyNot_205 : am_cd k_M_whyNot 205 = some ((some .int), .iinc 6 1, (0, 0, 0, 0, 0, .null)) := rfl
theorem s_M_whyNot_205 {a0 a1 a2 a3 a4 a5 : Option Value} {st : List Value} {σ : am_H} {Q : Option Value → am_H → Prop} {x : Int32} (hc : am_c2 a5 = false) : ax k_M_whyNot 205 [a0, a1, a2, a3, a4, a5, some (.int x)] st σ Q = ax k_M_whyNot 208 [a0, a1, a2, a3, a4, a5, some (.int (x + 1))] st σ Q := ru_iinc f_M_whyNot_205 rfl (Nat.le_of_ble_eq_true rfl) (by decide +kernel) (ru_st1 (Nat.le_of_ble_eq_true rfl) (am_clr_c2 hc rfl) rfl) rfl
theorem f_M_whyNot_208 : am_cd k_M_whyNot 208 = some ((some .int), .goto (-73), (135, 0, 0, 0, 0, .null)) := rfl
theorem s_M_whyNot_208 {ls : am_L} {st : List Value} {σ : am_H} {Q : Option Value → am_H → Prop} : ax k_M_whyNot 208 ls st σ Q = ax k_M_whyNot 135 ls st σ Q := ru_goto f_M_whyNot_208
theorem f_M_whyNot_211 : am_cd k_M_whyNot 211 = some ((some .int), .iconst 0, (0, 0, 0, 0, 0, .null)) := rfl
theorem s_M_whyNot_211 {ls : am_L} {st : List Value} {σ : am_H} {Q : Option Value → am_H → Prop} : ax k_M_whyNot 211 ls st σ Q = ax k_M_whyNot 212 ls (.int 0 :: st) σ Q := ru_iconst f_M_whyNot_211 (by decide +kernel) rfl
theorem f_M_whyNot_212 : am_cd k_M_whyNot 212 = some ((some .int), .ireturn, (0, 0, 0, 0, 0, .null)) := rfl
theorem s_M_whyNot_212 {ls : am_L} {σ : am_H} {Q : Option Value → am_H → Prop} {v : Int32} : ax k_M_whyNot 212 ls [.int v] σ Q = Q (some (.int v)) σ := ru_iretI f_M_whyNot_212
theorem f_M_isBeside_0 : am_cd k_M_isBeside 0 = some ((some .boolean), .iload_n 1, (0, 0, 0, 0, 0, .null)) := rfl
theorem s_M_isBeside_0 {a0 : Option Value} {st : List Value} {σ : am_H} {Q : Option Value → am_H → Prop} {x : Int32} : ax k_M_isBeside 0 [a0, some (.int x)] st σ Q = ax k_M_isBeside 1 [a0, some (.int x)] (.int x :: st) σ Q := ru_loc (q := (_, _)) f_M_isBeside_0 rfl rfl rfl
theorem f_M_isBeside_1 : am_cd k_M_isBeside 1 = some ((some .boolean), .iconst (-1), (0, 0, 0, 0, 0, .null)) := rfl
theorem s_M_isBeside_1 {ls : am_L} {st : List Value} {σ : am_H} {Q : Option Value → am_H → Prop} : ax k_M_isBeside 1 ls st σ Q = ax k_M_isBeside 2 ls (.int (-1) :: st) σ Q := ru_iconst f_M_isBeside_1 (by decide +kernel) rfl
theorem f_M_isBeside_2 : am_cd k_M_isBeside 2 = some ((some .boolean), .if_icmp .eq 11, (13, 0, 0, 0, 0, .null)) := rfl
theorem s_M_isBeside_2 {ls : am_L} {st : List Value} {σ : am_H} {Q : Option Value → am_H → Prop} {x y : Int32} : ax k_M_isBeside 2 ls (.int y :: .int x :: st) σ Q = (if x = y then ax k_M_isBeside 13 ls st σ Q else ax k_M_isBeside 5 ls st σ Q) := (ru_icmp f_M_isBeside_2 rfl).trans (ru_i_eq _ _ _ _)
theorem f_M_isBeside_5 : am_cd k_M_isBeside 5 = some ((some .boolean), .aload_n 0, (0, 0, 0, 0, 0, .null)) := rfl
theorem s_M_isBeside_5 {a1 : Option Value} {st : List Value} {σ : am_H} {Q : Option Value → am_H → Prop} {x : Nat} : ax k_M_isBeside 5 [some (.ref x), a1] st σ Q = ax k_M_isBeside 6 [some (.ref x), a1] (.ref x :: st) σ Q := ru_loc (q := (_, _)) f_M_isBeside_5 rfl rfl rfl
theorem f_M_isBeside_6 : am_cd k_M_isBeside 6 = some ((some .boolean), .iload_n 1, (0, 0, 0, 0, 0, .null)) := rfl
theorem s_M_isBeside_6 {a0 : Option Value} {st : List Value} {σ : am_H} {Q : Option Value → am_H → Prop} {x : Int32} : ax k_M_isBeside 6 [a0, some (.int x)] st σ Q = ax k_M_isBeside 7 [a0, some (.int x)] (.int x :: st) σ Q := ru_loc (q := (_, _)) f_M_isBeside_6 rfl rfl rfl
theorem f_M_isBeside_7 : am_cd k_M_isBeside 7 = some ((some .boolean), .invokevirtual 172, (114, 1, 1117, 0, 11, .null)) := rfl
theorem s_M_isBeside_7 {ls : am_L} {st : List Value} {σ : am_H} {Q : Option Value → am_H → Prop} {p0 : Int32} {b : Nat} (hi : am_is σ b 11) (h8 : am_s8 st) : ax k_M_isBeside 7 ls (.int p0 :: .ref b :: st) σ Q = ax k_M_isWord 0 [some (.ref b), some (.int p0)] [] σ (ax_k k_M_isBeside 10 ls st Q) := ru_vir (M' := rk_M_isWord) f_M_isBeside_7 rfl rfl rfl rfl hi h8 rfl rfl rfl rfl rfl
theorem f_M_isBeside_10 : am_cd k_M_isBeside 10 = some ((some .boolean), .ifCond .eq 7, (17, 0, 0, 0, 0, .null)) := rfl
theorem s_M_isBeside_10 {ls : am_L} {st : List Value} {σ : am_H} {Q : Option Value → am_H → Prop} {x : Int32} : ax k_M_isBeside 10 ls (.int x :: st) σ Q = (if x = 0 then ax k_M_isBeside 17 ls st σ Q else ax k_M_isBeside 13 ls st σ Q) := (ru_if f_M_isBeside_10 rfl).trans (ru_i_eq _ _ _ _)
theorem f_M_isBeside_13 : am_cd k_M_isBeside 13 = some ((some .boolean), .iconst 1, (0, 0, 0, 0, 0, .null)) := rfl
theorem s_M_isBeside_13 {ls : am_L} {st : List Value} {σ : am_H} {Q : Option Value → am_H → Prop} : ax k_M_isBeside 13 ls st σ Q = ax k_M_isBeside 14 ls (.int 1 :: st) σ Q := ru_iconst f_M_isBeside_13 (by decide +kernel) rfl
theorem f_M_isBeside_14 : am_cd k_M_isBeside 14 = some ((some .boolean), .goto 4, (18, 0, 0, 0, 0, .null)) := rfl
theorem s_M_isBeside_14 {ls : am_L} {st : List Value} {σ : am_H} {Q : Option Value → am_H → Prop} : ax k_M_isBeside 14 ls st σ Q = ax k_M_isBeside 18 ls st σ Q := ru_goto f_M_isBeside_14
theorem f_M_isBeside_17 : am_cd k_M_isBeside 17 = some ((some .boolean), .iconst 0, (0, 0, 0, 0, 0, .null)) := rfl
theorem s_M_isBeside_17 {ls : am_L} {st : List Value} {σ : am_H} {Q : Option Value → am_H → Prop} : ax k_M_isBeside 17 ls st σ Q = ax k_M_isBeside 18 ls (.int 0 :: st) σ Q := ru_iconst f_M_isBeside_17 (by decide +kernel) rfl
theorem f_M_isBeside_18 : am_cd k_M_isBeside 18 = some ((some .boolean), .ireturn, (0, 0, 0, 0, 0, .null)) := rfl
theorem s_M_isBeside_18 {ls : am_L} {σ : am_H} {Q : Option Value → am_H → Prop} {v : Int32} : ax k_M_isBeside 18 ls ([.int v]) σ Q = (am_nar .boolean v = true ∧ Q (some (.int v)) σ) := ru_iret f_M_isBeside_18
theorem f_M_why_0 : am_cd k_M_why 0 = some ((some .int), .aload_n 0, (0, 0, 0, 0, 0, .null)) := rfl
theorem s_M_why_0 {a1 a2 a3 a4 a5 : Option Value} {st : List Value} {σ : am_H} {Q : Option Value → am_H → Prop} {x : Nat} : ax k_M_why 0 [some (.ref x), a1, a2, a3, a4, a5] st σ Q = ax k_M_why 1 [some (.ref x), a1, a2, a3, a4, a5] (.ref x :: st) σ Q := ru_loc (q := (_, _)) f_M_why_0 rfl rfl rfl
theorem f_M_why_1 : am_cd k_M_why 1 = some ((some .int), .iload_n 1, (0, 0, 0, 0, 0, .null)) := rfl
theorem s_M_why_1 {a0 a2 a3 a4 a5 : Option Value} {st : List Value} {σ : am_H} {Q : Option Value → am_H → Prop} {x : Int32} : ax k_M_why 1 [a0, some (.int x), a2, a3, a4, a5] st σ Q = ax k_M_why 2 [a0, some (.int x), a2, a3, a4, a5] (.int x :: st) σ Q := ru_loc (q := (_, _)) f_M_why_1 rfl rfl rfl
theorem f_M_why_2 : am_cd k_M_why 2 = some ((some .int), .iload_n 2, (0, 0, 0, 0, 0, .null)) := rfl
theorem s_M_why_2 {a0 a1 a3 a4 a5 : Option Value} {st : List Value} {σ : am_H} {Q : Option Value → am_H → Prop} {x : Int32} : ax k_M_why 2 [a0, a1, some (.int x), a3, a4, a5] st σ Q = ax k_M_why 3 [a0, a1, some (.int x), a3, a4, a5] (.int x :: st) σ Q := ru_loc (q := (_, _)) f_M_why_2 rfl rfl rfl
theorem f_M_why_3 : am_cd k_M_why 3 = some ((some .int), .iload_n 3, (0, 0, 0, 0, 0, .null)) := rfl
theorem s_M_why_3 {a0 a1 a2 a4 a5 : Option Value} {st : List Value} {σ : am_H} {Q : Option Value → am_H → Prop} {x : Int32} : ax k_M_why 3 [a0, a1, a2, some (.int x), a4, a5] st σ Q = ax k_M_why 4 [a0, a1, a2, some (.int x), a4, a5] (.int x :: st) σ Q := ru_loc (q := (_, _)) f_M_why_3 rfl rfl rfl
theorem f_M_why_4 : am_cd k_M_why 4 = some ((some .int), .iload 4, (0, 0, 0, 0, 0, .null)) := rfl
theorem s_M_why_4 {a0 a1 a2 a3 a5 : Option Value} {st : List Value} {σ : am_H} {Q : Option Value → am_H → Prop} {x : Int32} : ax k_M_why 4 [a0, a1, a2, a3, some (.int x), a5] st σ Q = ax k_M_why 6 [a0, a1, a2, a3, some (.int x), a5] (.int x :: st) σ Q := ru_loc (q := (_, _)) f_M_why_4 rfl rfl rfl
theorem f_M_why_6 : am_cd k_M_why 6 = some ((some .int), .invokevirtual 296, (160, 4, 1288, 0, 11, .null)) := rfl
theorem s_M_why_6 {ls : am_L} {st : List Value} {σ : am_H} {Q : Option Value → am_H → Prop} {p0 : Int32} {p1 : Int32} {p2 : Int32} {p3 : Int32} {b : Nat} (hi : am_is σ b 11) (h8 : am_s8 st) : ax k_M_why 6 ls (.int p3 :: .int p2 :: .int p1 :: .int p0 :: .ref b :: st) σ Q = ax k_M_isUse 0 [some (.ref b), some (.int p0), some (.int p1), some (.int p2), some (.int p3)] [] σ (ax_k k_M_why 9 ls st Q) := ru_vir (M' := rk_M_isUse) f_M_why_6 rfl rfl rfl rfl hi h8 rfl rfl rfl rfl rfl
theorem f_M_why_9 : am_cd k_M_why 9 = some ((some .int), .ifCond .eq 26, (35, 0, 0, 0, 0, .null)) := rfl
theorem s_M_why_9 {ls : am_L} {st : List Value} {σ : am_H} {Q : Option Value → am_H → Prop} {x : Int32} : ax k_M_why 9 ls (.int x :: st) σ Q = (if x = 0 then ax k_M_why 35 ls st σ Q else ax k_M_why 12 ls st σ Q) := (ru_if f_M_why_9 rfl).trans (ru_i_eq _ _ _ _)
theorem f_M_why_12 : am_cd k_M_why 12 = some ((some .int), .aload_n 0, (0, 0, 0, 0, 0, .null)) := rfl
theorem s_M_why_12 {a1 a2 a3 a4 a5 : Option Value} {st : List Value} {σ : am_H} {Q : Option Value → am_H → Prop} {x : Nat} : ax k_M_why 12 [some (.ref x), a1, a2, a3, a4, a5] st σ Q = ax k_M_why 13 [some (.ref x), a1, a2, a3, a4, a5] (.ref x :: st) σ Q := ru_loc (q := (_, _)) f_M_why_12 rfl rfl rfl
theorem f_M_why_13 : am_cd k_M_why 13 = some ((some .int), .iload 5, (0, 0, 0, 0, 0, .null)) := rfl
theorem s_M_why_13 {a0 a1 a2 a3 a4 : Option Value} {st : List Value} {σ : am_H} {Q : Option Value → am_H → Prop} {x : Int32} : ax k_M_why 13 [a0, a1, a2, a3, a4, some (.int x)] st σ Q = ax k_M_why 15 [a0, a1, a2, a3, a4, some (.int x)] (.int x :: st) σ Q := ru_loc (q := (_, _)) f_M_why_13 rfl rfl rfl
theorem f_M_why_15 : am_cd k_M_why 15 = some ((some .int), .invokevirtual 300, (162, 1, 1292, 0, 11, .null)) := rfl
theorem s_M_why_15 {ls : am_L} {st : List Value} {σ : am_H} {Q : Option Value → am_H → Prop} {p0 : Int32} {b : Nat} (hi : am_is σ b 11) (h8 : am_s8 st) : ax k_M_why 15 ls (.int p0 :: .ref b :: st) σ Q = ax k_M_isBeside 0 [some (.ref b), some (.int p0)] [] σ (ax_k k_M_why 18 ls st Q) := ru_vir (M' := rk_M_isBeside) f_M_why_15 rfl rfl rfl rfl hi h8 rfl rfl rfl rfl rfl
theorem f_M_why_18 : am_cd k_M_why 18 = some ((some .int), .ifCond .eq 17, (35, 0, 0, 0, 0, .null)) := rfl
theorem s_M_why_18 {ls : am_L} {st : List Value} {σ : am_H} {Q : Option Value → am_H → Prop} {x : Int32} : ax k_M_why 18 ls (.int x :: st) σ Q = (if x = 0 then ax k_M_why 35 ls st σ Q else ax k_M_why 21 ls st σ Q) := (ru_if f_M_why_18 rfl).trans (ru_i_eq _ _ _ _)
theorem f_M_why_21 : am_cd k_M_why 21 = some ((some .int), .aload_n 0, (0, 0, 0, 0, 0, .null)) := rfl
theorem s_M_why_21 {a1 a2 a3 a4 a5 : Option Value} {st : List Value} {σ : am_H} {Q : Option Value → am_H → Prop} {x : Nat} : ax k_M_why 21 [some (.ref x), a1, a2, a3, a4, a5] st σ Q = ax k_M_why 22 [some (.ref x), a1, a2, a3, a4, a5] (.ref x :: st) σ Q := ru_loc (q := (_, _)) f_M_why_21 rfl rfl rfl
theorem f_M_why_22 : am_cd k_M_why 22 = some ((some .int), .iload_n 1, (0, 0, 0, 0, 0, .null)) := rfl
theorem s_M_why_22 {a0 a2 a3 a4 a5 : Option Value} {st : List Value} {σ : am_H} {Q : Option Value → am_H → Prop} {x : Int32} : ax k_M_why 22 [a0, some (.int x), a2, a3, a4, a5] st σ Q = ax k_M_why 23 [a0, some (.int x), a2, a3, a4, a5] (.int x :: st) σ Q := ru_loc (q := (_, _)) f_M_why_22 rfl rfl rfl
theorem f_M_why_23 : am_cd k_M_why 23 = some ((some .int), .iload_n 2, (0, 0, 0, 0, 0, .null)) := rfl
theorem s_M_why_23 {a0 a1 a3 a4 a5 : Option Value} {st : List Value} {σ : am_H} {Q : Option Value → am_H → Prop} {x : Int32} : ax k_M_why 23 [a0, a1, some (.int x), a3, a4, a5] st σ Q = ax k_M_why 24 [a0, a1, some (.int x), a3, a4, a5] (.int x :: st) σ Q := ru_loc (q := (_, _)) f_M_why_23 rfl rfl rfl
theorem f_M_why_24 : am_cd k_M_why 24 = some ((some .int), .iload_n 3, (0, 0, 0, 0, 0, .null)) := rfl
theorem s_M_why_24 {a0 a1 a2 a4 a5 : Option Value} {st : List Value} {σ : am_H} {Q : Option Value → am_H → Prop} {x : Int32} : ax k_M_why 24 [a0, a1, a2, some (.int x), a4, a5] st σ Q = ax k_M_why 25 [a0, a1, a2, some (.int x), a4, a5] (.int x :: st) σ Q := ru_loc (q := (_, _)) f_M_why_24 rfl rfl rfl
theorem f_M_why_25 : am_cd k_M_why 25 = some ((some .int), .iload 4, (0, 0, 0, 0, 0, .null)) := rfl
theorem s_M_why_25 {a0 a1 a2 a3 a5 : Option Value} {st : List Value} {σ : am_H} {Q : Option Value → am_H → Prop} {x : Int32} : ax k_M_why 25 [a0, a1, a2, a3, some (.int x), a5] st σ Q = ax k_M_why 27 [a0, a1, a2, a3, some (.int x), a5] (.int x :: st) σ Q := ru_loc (q := (_, _)) f_M_why_25 rfl rfl rfl
theorem f_M_why_27 : am_cd k_M_why 27 = some ((some .int), .iload 5, (0, 0, 0, 0, 0, .null)) := rfl
theorem s_M_why_27 {a0 a1 a2 a3 a4 : Option Value} {st : List Value} {σ : am_H} {Q : Option Value → am_H → Prop} {x : Int32} : ax k_M_why 27 [a0, a1, a2, a3, a4, some (.int x)] st σ Q = ax k_M_why 29 [a0, a1, a2, a3, a4, some (.int x)] (.int x :: st) σ Q := ru_loc (q := (_, _)) f_M_why_27 rfl rfl rfl
theorem f_M_why_29 : am_cd k_M_why 29 = some ((some .int), .invokevirtual 303, (161, 5, 1296, 0, 11, .null)) := rfl
theorem s_M_why_29 {ls : am_L} {st : List Value} {σ : am_H} {Q : Option Value → am_H → Prop} {p0 : Int32} {p1 : Int32} {p2 : Int32} {p3 : Int32} {p4 : Int32} {b : Nat} (hi : am_is σ b 11) (h8 : am_s8 st) : ax k_M_why 29 ls (.int p4 :: .int p3 :: .int p2 :: .int p1 :: .int p0 :: .ref b :: st) σ Q = ax k_M_whyNot 0 [some (.ref b), some (.int p0), some (.int p1), some (.int p2), some (.int p3), some (.int p4), none] [] σ (ax_k k_M_why 32 ls st Q) := ru_vir (M' := rk_M_whyNot) f_M_why_29 rfl rfl rfl rfl hi h8 rfl rfl rfl rfl rfl
theorem f_M_why_32 : am_cd k_M_why 32 = some ((some .int), .goto 4, (36, 0, 0, 0, 0, .null)) := rfl
theorem s_M_why_32 {ls : am_L} {st : List Value} {σ : am_H} {Q : Option Value → am_H → Prop} : ax k_M_why 32 ls st σ Q = ax k_M_why 36 ls st σ Q := ru_goto f_M_why_32
theorem f_M_why_35 : am_cd k_M_why 35 = some ((some .int), .iconst (-1), (0, 0, 0, 0, 0, .null)) := rfl
theorem s_M_why_35 {ls : am_L} {st : List Value} {σ : am_H} {Q : Option Value → am_H → Prop} : ax k_M_why 35 ls st σ Q = ax k_M_why 36 ls (.int (-1) :: st) σ Q := ru_iconst f_M_why_35 (by decide +kernel) rfl
theorem f_M_why_36 : am_cd k_M_why 36 = some ((some .int), .ireturn, (0, 0, 0, 0, 0, .null)) := rfl
theorem s_M_why_36 {ls : am_L} {σ : am_H} {Q : Option Value → am_H → Prop} {v : Int32} : ax k_M_why 36 ls [.int v] σ Q = Q (some (.int v)) σ := ru_iretI f_M_why_36
theorem f_M_by_0 : am_cd k_M_by 0 = some ((some .int), .aload_n 0, (0, 0, 0, 0, 0, .null)) := rfl
theorem s_M_by_0 {a1 a2 a3 a4 a5 : Option Value} {st : List Value} {σ : am_H} {Q : Option Value → am_H → Prop} {x : Nat} : ax k_M_by 0 [some (.ref x), a1, a2, a3, a4, a5] st σ Q = ax k_M_by 1 [some (.ref x), a1, a2, a3, a4, a5] (.ref x :: st) σ Q := ru_loc (q := (_, _)) f_M_by_0 rfl rfl rfl
theorem f_M_by_1 : am_cd k_M_by 1 = some ((some .int), .iload_n 1, (0, 0, 0, 0, 0, .null)) := rfl
theorem s_M_by_1 {a0 a2 a3 a4 a5 : Option Value} {st : List Value} {σ : am_H} {Q : Option Value → am_H → Prop} {x : Int32} : ax k_M_by 1 [a0, some (.int x), a2, a3, a4, a5] st σ Q = ax k_M_by 2 [a0, some (.int x), a2, a3, a4, a5] (.int x :: st) σ Q := ru_loc (q := (_, _)) f_M_by_1 rfl rfl rfl
theorem f_M_by_2 : am_cd k_M_by 2 = some ((some .int), .iload_n 2, (0, 0, 0, 0, 0, .null)) := rfl
theorem s_M_by_2 {a0 a1 a3 a4 a5 : Option Value} {st : List Value} {σ : am_H} {Q : Option Value → am_H → Prop} {x : Int32} : ax k_M_by 2 [a0, a1, some (.int x), a3, a4, a5] st σ Q = ax k_M_by 3 [a0, a1, some (.int x), a3, a4, a5] (.int x :: st) σ Q := ru_loc (q := (_, _)) f_M_by_2 rfl rfl rfl
theorem f_M_by_3 : am_cd k_M_by 3 = some ((some .int), .iload_n 3, (0, 0, 0, 0, 0, .null)) := rfl
theorem s_M_by_3 {a0 a1 a2 a4 a5 : Option Value} {st : List Value} {σ : am_H} {Q : Option Value → am_H → Prop} {x : Int32} : ax k_M_by 3 [a0, a1, a2, some (.int x), a4, a5] st σ Q = ax k_M_by 4 [a0, a1, a2, some (.int x), a4, a5] (.int x :: st) σ Q := ru_loc (q := (_, _)) f_M_by_3 rfl rfl rfl
theorem f_M_by_4 : am_cd k_M_by 4 = some ((some .int), .iload 4, (0, 0, 0, 0, 0, .null)) := rfl
theorem s_M_by_4 {a0 a1 a2 a3 a5 : Option Value} {st : List Value} {σ : am_H} {Q : Option Value → am_H → Prop} {x : Int32} : ax k_M_by 4 [a0, a1, a2, a3, some (.int x), a5] st σ Q = ax k_M_by 6 [a0, a1, a2, a3, some (.int x), a5] (.int x :: st) σ Q := ru_loc (q := (_, _)) f_M_by_4 rfl rfl rfl
theorem f_M_by_6 : am_cd k_M_by 6 = some ((some .int), .invokevirtual 296, (160, 4, 1288, 0, 11, .null)) := rfl
theorem s_M_by_6 {ls : am_L} {st : List Value} {σ : am_H} {Q : Option Value → am_H → Prop} {p0 : Int32} {p1 : Int32} {p2 : Int32} {p3 : Int32} {b : Nat} (hi : am_is σ b 11) (h8 : am_s8 st) : ax k_M_by 6 ls (.int p3 :: .int p2 :: .int p1 :: .int p0 :: .ref b :: st) σ Q = ax k_M_isUse 0 [some (.ref b), some (.int p0), some (.int p1), some (.int p2), some (.int p3)] [] σ (ax_k k_M_by 9 ls st Q) := ru_vir (M' := rk_M_isUse) f_M_by_6 rfl rfl rfl rfl hi h8 rfl rfl rfl rfl rfl
theorem f_M_by_9 : am_cd k_M_by 9 = some ((some .int), .ifCond .eq 12, (21, 0, 0, 0, 0, .null)) := rfl
theorem s_M_by_9 {ls : am_L} {st : List Value} {σ : am_H} {Q : Option Value → am_H → Prop} {x : Int32} : ax k_M_by 9 ls (.int x :: st) σ Q = (if x = 0 then ax k_M_by 21 ls st σ Q else ax k_M_by 12 ls st σ Q) := (ru_if f_M_by_9 rfl).trans (ru_i_eq _ _ _ _)
theorem f_M_by_12 : am_cd k_M_by 12 = some ((some .int), .aload_n 0, (0, 0, 0, 0, 0, .null)) := rfl
theorem s_M_by_12 {a1 a2 a3 a4 a5 : Option Value} {st : List Value} {σ : am_H} {Q : Option Value → am_H → Prop} {x : Nat} : ax k_M_by 12 [some (.ref x), a1, a2, a3, a4, a5] st σ Q = ax k_M_by 13 [some (.ref x), a1, a2, a3, a4, a5] (.ref x :: st) σ Q := ru_loc (q := (_, _)) f_M_by_12 rfl rfl rfl
theorem f_M_by_13 : am_cd k_M_by 13 = some ((some .int), .iload 5, (0, 0, 0, 0, 0, .null)) := rfl
theorem s_M_by_13 {a0 a1 a2 a3 a4 : Option Value} {st : List Value} {σ : am_H} {Q : Option Value → am_H → Prop} {x : Int32} : ax k_M_by 13 [a0, a1, a2, a3, a4, some (.int x)] st σ Q = ax k_M_by 15 [a0, a1, a2, a3, a4, some (.int x)] (.int x :: st) σ Q := ru_loc (q := (_, _)) f_M_by_13 rfl rfl rfl
theorem f_M_by_15 : am_cd k_M_by 15 = some ((some .int), .invokevirtual 300, (162, 1, 1292, 0, 11, .null)) := rfl
theorem s_M_by_15 {ls : am_L} {st : List Value} {σ : am_H} {Q : Option Value → am_H → Prop} {p0 : Int32} {b : Nat} (hi : am_is σ b 11) (h8 : am_s8 st) : ax k_M_by 15 ls (.int p0 :: .ref b :: st) σ Q = ax k_M_isBeside 0 [some (.ref b), some (.int p0)] [] σ (ax_k k_M_by 18 ls st Q) := ru_vir (M' := rk_M_isBeside) f_M_by_15 rfl rfl rfl rfl hi h8 rfl rfl rfl rfl rfl
theorem f_M_by_18 : am_cd k_M_by 18 = some ((some .int), .ifCond .ne 5, (23, 0, 0, 0, 0, .null)) := rfl
theorem s_M_by_18 {ls : am_L} {st : List Value} {σ : am_H} {Q : Option Value → am_H → Prop} {x : Int32} : ax k_M_by 18 ls (.int x :: st) σ Q = (if x = 0 then ax k_M_by 21 ls st σ Q else ax k_M_by 23 ls st σ Q) := (ru_if f_M_by_18 rfl).trans (ru_i_ne _ _ _ _)
theorem f_M_by_21 : am_cd k_M_by 21 = some ((some .int), .iconst (-1), (0, 0, 0, 0, 0, .null)) := rfl
theorem s_M_by_21 {ls : am_L} {st : List Value} {σ : am_H} {Q : Option Value → am_H → Prop} : ax k_M_by 21 ls st σ Q = ax k_M_by 22 ls (.int (-1) :: st) σ Q := ru_iconst f_M_by_21 (by decide +kernel) rfl
theorem f_M_by_22 : am_cd k_M_by 22 = some ((some .int), .ireturn, (0, 0, 0, 0, 0, .null)) := rfl
theorem s_M_by_22 {ls : am_L} {σ : am_H} {Q : Option Value → am_H → Prop} {v : Int32} : ax k_M_by 22 ls [.int v] σ Q = Q (some (.int v)) σ := ru_iretI f_M_by_22
theorem f_M_by_23 : am_cd k_M_by 23 = some ((some .int), .aload_n 0, (0, 0, 0, 0, 0, .null)) := rfl
theorem s_M_by_23 {a1 a2 a3 a4 a5 : Option Value} {st : List Value} {σ : am_H} {Q : Option Value → am_H → Prop} {x : Nat} : ax k_M_by 23 [some (.ref x), a1, a2, a3, a4, a5] st σ Q = ax k_M_by 24 [some (.ref x), a1, a2, a3, a4, a5] (.ref x :: st) σ Q := ru_loc (q := (_, _)) f_M_by_23 rfl rfl rfl
theorem f_M_by_24 : am_cd k_M_by 24 = some ((some .int), .iload_n 1, (0, 0, 0, 0, 0, .null)) := rfl
theorem s_M_by_24 {a0 a2 a3 a4 a5 : Option Value} {st : List Value} {σ : am_H} {Q : Option Value → am_H → Prop} {x : Int32} : ax k_M_by 24 [a0, some (.int x), a2, a3, a4, a5] st σ Q = ax k_M_by 25 [a0, some (.int x), a2, a3, a4, a5] (.int x :: st) σ Q := ru_loc (q := (_, _)) f_M_by_24 rfl rfl rfl
theorem f_M_by_25 : am_cd k_M_by 25 = some ((some .int), .iload_n 2, (0, 0, 0, 0, 0, .null)) := rfl
theorem s_M_by_25 {a0 a1 a3 a4 a5 : Option Value} {st : List Value} {σ : am_H} {Q : Option Value → am_H → Prop} {x : Int32} : ax k_M_by 25 [a0, a1, some (.int x), a3, a4, a5] st σ Q = ax k_M_by 26 [a0, a1, some (.int x), a3, a4, a5] (.int x :: st) σ Q := ru_loc (q := (_, _)) f_M_by_25 rfl rfl rfl
theorem f_M_by_26 : am_cd k_M_by 26 = some ((some .int), .iload_n 3, (0, 0, 0, 0, 0, .null)) := rfl
theorem s_M_by_26 {a0 a1 a2 a4 a5 : Option Value} {st : List Value} {σ : am_H} {Q : Option Value → am_H → Prop} {x : Int32} : ax k_M_by 26 [a0, a1, a2, some (.int x), a4, a5] st σ Q = ax k_M_by 27 [a0, a1, a2, some (.int x), a4, a5] (.int x :: st) σ Q := ru_loc (q := (_, _)) f_M_by_26 rfl rfl rfl
theorem f_M_by_27 : am_cd k_M_by 27 = some ((some .int), .iload 4, (0, 0, 0, 0, 0, .null)) := rfl
theorem s_M_by_27 {a0 a1 a2 a3 a5 : Option Value} {st : List Value} {σ : am_H} {Q : Option Value → am_H → Prop} {x : Int32} : ax k_M_by 27 [a0, a1, a2, a3, some (.int x), a5] st σ Q = ax k_M_by 29 [a0, a1, a2, a3, some (.int x), a5] (.int x :: st) σ Q := ru_loc (q := (_, _)) f_M_by_27 rfl rfl rfl
theorem f_M_by_29 : am_cd k_M_by 29 = some ((some .int), .iload 5, (0, 0, 0, 0, 0, .null)) := rfl
theorem s_M_by_29 {a0 a1 a2 a3 a4 : Option Value} {st : List Value} {σ : am_H} {Q : Option Value → am_H → Prop} {x : Int32} : ax k_M_by 29 [a0, a1, a2, a3, a4, some (.int x)] st σ Q = ax k_M_by 31 [a0, a1, a2, a3, a4, some (.int x)] (.int x :: st) σ Q := ru_loc (q := (_, _)) f_M_by_29 rfl rfl rfl
theorem f_M_by_31 : am_cd k_M_by 31 = some ((some .int), .invokevirtual 303, (161, 5, 1296, 0, 11, .null)) := rfl
theorem s_M_by_31 {ls : am_L} {st : List Value} {σ : am_H} {Q : Option Value → am_H → Prop} {p0 : Int32} {p1 : Int32} {p2 : Int32} {p3 : Int32} {p4 : Int32} {b : Nat} (hi : am_is σ b 11) (h8 : am_s8 st) : ax k_M_by 31 ls (.int p4 :: .int p3 :: .int p2 :: .int p1 :: .int p0 :: .ref b :: st) σ Q = ax k_M_whyNot 0 [some (.ref b), some (.int p0), some (.int p1), some (.int p2), some (.int p3), some (.int p4), none] [] σ (ax_k k_M_by 34 ls st Q) := ru_vir (M' := rk_M_whyNot) f_M_by_31 rfl rfl rfl rfl hi h8 rfl rfl rfl rfl rfl
theorem f_M_by_34 : am_cd k_M_by 34 = some ((some .int), .pop, (0, 0, 0, 0, 0, .null)) := rfl
theorem s_M_by_34 {ls : am_L} {st : List Value} {σ : am_H} {Q : Option Value → am_H → Prop} {x : Int32} : ax k_M_by 34 ls (.int x :: st) σ Q = ax k_M_by 35 ls st σ Q := ru_pure f_M_by_34 rfl rfl
theorem f_M_by_35 : am_cd k_M_by 35 = some ((some .int), .aload_n 0, (0, 0, 0, 0, 0, .null)) := rfl
theorem s_M_by_35 {a1 a2 a3 a4 a5 : Option Value} {st : List Value} {σ : am_H} {Q : Option Value → am_H → Prop} {x : Nat} : ax k_M_by 35 [some (.ref x), a1, a2, a3, a4, a5] st σ Q = ax k_M_by 36 [some (.ref x), a1, a2, a3, a4, a5] (.ref x :: st) σ Q := ru_loc (q := (_, _)) f_M_by_35 rfl rfl rfl
theorem f_M_by_36 : am_cd k_M_by 36 = some ((some .int), .getfield 286, (11, 44, 961, 0, 0, .null)) := rfl
theorem s_M_by_36 {ls : am_L} {st : List Value} {σ : am_H} {Q : Option Value → am_H → Prop} {a : Nat} : ax k_M_by 36 ls (.ref a :: st) σ Q = ax_f (am_fld σ a 11 44) (fun v => ax k_M_by 39 ls (v :: st) σ Q) := ru_getf f_M_by_36 rfl
theorem f_M_by_39 : am_cd k_M_by 39 = some ((some .int), .ireturn, (0, 0, 0, 0, 0, .null)) := rfl
theorem s_M_by_39 {ls : am_L} {σ : am_H} {Q : Option Value → am_H → Prop} {v : Int32} : ax k_M_by 39 ls [.int v] σ Q = Q (some (.int v)) σ := ru_iretI f_M_by_39
theorem f_M_rate_0 : am_cd k_M_rate 0 = some ((some .boolean), .iload_n 1, (0, 0, 0, 0, 0, .null)) := rfl
theorem s_M_rate_0 {a0 a2 : Option Value} {st : List Value} {σ : am_H} {Q : Option Value → am_H → Prop} {x : Int32} : ax k_M_rate 0 [a0, some (.int x), a2] st σ Q = ax k_M_rate 1 [a0, some (.int x), a2] (.int x :: st) σ Q := ru_loc (q := (_, _)) f_M_rate_0 rfl rfl rfl
theorem f_M_rate_1 : am_cd k_M_rate 1 = some ((some .boolean), .iconst (-1), (0, 0, 0, 0, 0, .null)) := rfl
theorem s_M_rate_1 {ls : am_L} {st : List Value} {σ : am_H} {Q : Option Value → am_H → Prop} : ax k_M_rate 1 ls st σ Q = ax k_M_rate 2 ls (.int (-1) :: st) σ Q := ru_iconst f_M_rate_1 (by decide +kernel) rfl
theorem f_M_rate_2 : am_cd k_M_rate 2 = some ((some .boolean), .if_icmp .ne 20, (22, 0, 0, 0, 0, .null)) := rfl
theorem s_M_rate_2 {ls : am_L} {st : List Value} {σ : am_H} {Q : Option Value → am_H → Prop} {x y : Int32} : ax k_M_rate 2 ls (.int y :: .int x :: st) σ Q = (if x = y then ax k_M_rate 5 ls st σ Q else ax k_M_rate 22 ls st σ Q) := (ru_icmp f_M_rate_2 rfl).trans (ru_i_ne _ _ _ _)
theorem f_M_rate_5 : am_cd k_M_rate 5 = some ((some .boolean), .iload_n 2, (0, 0, 0, 0, 0, .null)) := rfl
theorem s_M_rate_5 {a0 a1 : Option Value} {st : List Value} {σ : am_H} {Q : Option Value → am_H → Prop} {x : Int32} : ax k_M_rate 5 [a0, a1, some (.int x)] st σ Q = ax k_M_rate 6 [a0, a1, some (.int x)] (.int x :: st) σ Q := ru_loc (q := (_, _)) f_M_rate_5 rfl rfl rfl
theorem f_M_rate_6 : am_cd k_M_rate 6 = some ((some .boolean), .iconst 0, (0, 0, 0, 0, 0, .null)) := rfl
theorem s_M_rate_6 {ls : am_L} {st : List Value} {σ : am_H} {Q : Option Value → am_H → Prop} : ax k_M_rate 6 ls st σ Q = ax k_M_rate 7 ls (.int 0 :: st) σ Q := ru_iconst f_M_rate_6 (by decide +kernel) rfl
theorem f_M_rate_7 : am_cd k_M_rate 7 = some ((some .boolean), .bipush 100, (0, 0, 0, 0, 0, .null)) := rfl
theorem s_M_rate_7 {ls : am_L} {st : List Value} {σ : am_H} {Q : Option Value → am_H → Prop} : ax k_M_rate 7 ls st σ Q = ax k_M_rate 9 ls (.int 100 :: st) σ Q := ru_bipush f_M_rate_7 (by decide +kernel) rfl
theorem f_M_rate_9 : am_cd k_M_rate 9 = some ((some .boolean), .invokestatic 154, (113, 3, 1110, 0, 11, .null)) := rfl
theorem s_M_rate_9 {ls : am_L} {st : List Value} {σ : am_H} {Q : Option Value → am_H → Prop} {p0 : Int32} {p1 : Int32} {p2 : Int32} (h8 : am_s8 st) : ax k_M_rate 9 ls (.int p2 :: .int p1 :: .int p0 :: st) σ Q = ax k_M_isIn 0 [some (.int p0), some (.int p1), some (.int p2)] [] σ (ax_k k_M_rate 12 ls st Q) := ru_sta (M' := rk_M_isIn) f_M_rate_9 rfl (by decide) rfl (by simp) rfl h8 rfl rfl rfl rfl rfl
theorem f_M_rate_12 : am_cd k_M_rate 12 = some ((some .boolean), .ifCond .eq 10, (22, 0, 0, 0, 0, .null)) := rfl
theorem s_M_rate_12 {ls : am_L} {st : List Value} {σ : am_H} {Q : Option Value → am_H → Prop} {x : Int32} : ax k_M_rate 12 ls (.int x :: st) σ Q = (if x = 0 then ax k_M_rate 22 ls st σ Q else ax k_M_rate 15 ls st σ Q) := (ru_if f_M_rate_12 rfl).trans (ru_i_eq _ _ _ _)
theorem f_M_rate_15 : am_cd k_M_rate 15 = some ((some .boolean), .aload_n 0, (0, 0, 0, 0, 0, .null)) := rfl
theorem s_M_rate_15 {a1 a2 : Option Value} {st : List Value} {σ : am_H} {Q : Option Value → am_H → Prop} {x : Nat} : ax k_M_rate 15 [some (.ref x), a1, a2] st σ Q = ax k_M_rate 16 [some (.ref x), a1, a2] (.ref x :: st) σ Q := ru_loc (q := (_, _)) f_M_rate_15 rfl rfl rfl
theorem f_M_rate_16 : am_cd k_M_rate 16 = some ((some .boolean), .iload_n 2, (0, 0, 0, 0, 0, .null)) := rfl
theorem s_M_rate_16 {a0 a1 : Option Value} {st : List Value} {σ : am_H} {Q : Option Value → am_H → Prop} {x : Int32} : ax k_M_rate 16 [a0, a1, some (.int x)] st σ Q = ax k_M_rate 17 [a0, a1, some (.int x)] (.int x :: st) σ Q := ru_loc (q := (_, _)) f_M_rate_16 rfl rfl rfl
theorem f_M_rate_17 : am_cd k_M_rate 17 = some ((some .boolean), .putfield 145, (11, 59, 976, 0, 0, .null)) := rfl
theorem s_M_rate_17 {ls : am_L} {st : List Value} {σ : am_H} {Q : Option Value → am_H → Prop} {a : Nat} {v : Value} : ax k_M_rate 17 ls (v :: .ref a :: st) σ Q = ax_f (am_fld σ a 11 59) (fun _ => a < am_top ∧ am_okv 0 v = true ∧ ax k_M_rate 20 ls st (am_put σ a 59 v) Q) := ru_putf f_M_rate_17 rfl
theorem f_M_rate_20 : am_cd k_M_rate 20 = some ((some .boolean), .iconst 1, (0, 0, 0, 0, 0, .null)) := rfl
theorem s_M_rate_20 {ls : am_L} {st : List Value} {σ : am_H} {Q : Option Value → am_H → Prop} : ax k_M_rate 20 ls st σ Q = ax k_M_rate 21 ls (.int 1 :: st) σ Q := ru_iconst f_M_rate_20 (by decide +kernel) rfl
theorem f_M_rate_21 : am_cd k_M_rate 21 = some ((some .boolean), .ireturn, (0, 0, 0, 0, 0, .null)) := rfl
theorem s_M_rate_21 {ls : am_L} {σ : am_H} {Q : Option Value → am_H → Prop} {v : Int32} : ax k_M_rate 21 ls ([.int v]) σ Q = (am_nar .boolean v = true ∧ Q (some (.int v)) σ) := ru_iret f_M_rate_21
theorem f_M_rate_22 : am_cd k_M_rate 22 = some ((some .boolean), .iload_n 1, (0, 0, 0, 0, 0, .null)) := rfl
theorem s_M_rate_22 {a0 a2 : Option Value} {st : List Value} {σ : am_H} {Q : Option Value → am_H → Prop} {x : Int32} : ax k_M_rate 22 [a0, some (.int x), a2] st σ Q = ax k_M_rate 23 [a0, some (.int x), a2] (.int x :: st) σ Q := ru_loc (q := (_, _)) f_M_rate_22 rfl rfl rfl
theorem f_M_rate_23 : am_cd k_M_rate 23 = some ((some .boolean), .iconst 0, (0, 0, 0, 0, 0, .null)) := rfl
theorem s_M_rate_23 {ls : am_L} {st : List Value} {σ : am_H} {Q : Option Value → am_H → Prop} : ax k_M_rate 23 ls st σ Q = ax k_M_rate 24 ls (.int 0 :: st) σ Q := ru_iconst f_M_rate_23 (by decide +kernel) rfl
theorem f_M_rate_24 : am_cd k_M_rate 24 = some ((some .boolean), .iconst 4, (0, 0, 0, 0, 0, .null)) := rfl
theorem s_M_rate_24 {ls : am_L} {st : List Value} {σ : am_H} {Q : Option Value → am_H → Prop} : ax k_M_rate 24 ls st σ Q = ax k_M_rate 25 ls (.int 4 :: st) σ Q := ru_iconst f_M_rate_24 (by decide +kernel) rfl
theorem f_M_rate_25 : am_cd k_M_rate 25 = some ((some .boolean), .invokestatic 154, (113, 3, 1110, 0, 11, .null)) := rfl
theorem s_M_rate_25 {ls : am_L} {st : List Value} {σ : am_H} {Q : Option Value → am_H → Prop} {p0 : Int32} {p1 : Int32} {p2 : Int32} (h8 : am_s8 st) : ax k_M_rate 25 ls (.int p2 :: .int p1 :: .int p0 :: st) σ Q = ax k_M_isIn 0 [some (.int p0), some (.int p1), some (.int p2)] [] σ (ax_k k_M_rate 28 ls st Q) := ru_sta (M' := rk_M_isIn) f_M_rate_25 rfl (by decide) rfl (by simp) rfl h8 rfl rfl rfl rfl rfl
theorem f_M_rate_28 : am_cd k_M_rate 28 = some ((some .boolean), .ifCond .eq 13, (41, 0, 0, 0, 0, .null)) := rfl
theorem s_M_rate_28 {ls : am_L} {st : List Value} {σ : am_H} {Q : Option Value → am_H → Prop} {x : Int32} : ax k_M_rate 28 ls (.int x :: st) σ Q = (if x = 0 then ax k_M_rate 41 ls st σ Q else ax k_M_rate 31 ls st σ Q) := (ru_if f_M_rate_28 rfl).trans (ru_i_eq _ _ _ _)
theorem f_M_rate_31 : am_cd k_M_rate 31 = some ((some .boolean), .iload_n 2, (0, 0, 0, 0, 0, .null)) := rfl
theorem s_M_rate_31 {a0 a1 : Option Value} {st : List Value} {σ : am_H} {Q : Option Value → am_H → Prop} {x : Int32} : ax k_M_rate 31 [a0, a1, some (.int x)] st σ Q = ax k_M_rate 32 [a0, a1, some (.int x)] (.int x :: st) σ Q := ru_loc (q := (_, _)) f_M_rate_31 rfl rfl rfl
theorem f_M_rate_32 : am_cd k_M_rate 32 = some ((some .boolean), .iconst 0, (0, 0, 0, 0, 0, .null)) := rfl
theorem s_M_rate_32 {ls : am_L} {st : List Value} {σ : am_H} {Q : Option Value → am_H → Prop} : ax k_M_rate 32 ls st σ Q = ax k_M_rate 33 ls (.int 0 :: st) σ Q := ru_iconst f_M_rate_32 (by decide +kernel) rfl
theorem f_M_rate_33 : am_cd k_M_rate 33 = some ((some .boolean), .ldc 164, (0, 0, 1109, 0, 0, .int (100000))) := rfl
theorem s_M_rate_33 {ls : am_L} {st : List Value} {σ : am_H} {Q : Option Value → am_H → Prop} : ax k_M_rate 33 ls st σ Q = ax k_M_rate 35 ls (.int (100000) :: st) σ Q := ru_rd f_M_rate_33 rfl rfl rfl rfl rfl
theorem f_M_rate_35 : am_cd k_M_rate 35 = some ((some .boolean), .invokestatic 154, (113, 3, 1110, 0, 11, .null)) := rfl
theorem s_M_rate_35 {ls : am_L} {st : List Value} {σ : am_H} {Q : Option Value → am_H → Prop} {p0 : Int32} {p1 : Int32} {p2 : Int32} (h8 : am_s8 st) : ax k_M_rate 35 ls (.int p2 :: .int p1 :: .int p0 :: st) σ Q = ax k_M_isIn 0 [some (.int p0), some (.int p1), some (.int p2)] [] σ (ax_k k_M_rate 38 ls st Q) := ru_sta (M' := rk_M_isIn) f_M_rate_35 rfl (by decide) rfl (by simp) rfl h8 rfl rfl rfl rfl rfl
theorem f_M_rate_38 : am_cd k_M_rate 38 = some ((some .boolean), .ifCond .ne 5, (43, 0, 0, 0, 0, .null)) := rfl
theorem s_M_rate_38 {ls : am_L} {st : List Value} {σ : am_H} {Q : Option Value → am_H → Prop} {x : Int32} : ax k_M_rate 38 ls (.int x :: st) σ Q = (if x = 0 then ax k_M_rate 41 ls st σ Q else ax k_M_rate 43 ls st σ Q) := (ru_if f_M_rate_38 rfl).trans (ru_i_ne _ _ _ _)
theorem f_M_rate_41 : am_cd k_M_rate 41 = some ((some .boolean), .iconst 0, (0, 0, 0, 0, 0, .null)) := rfl
theorem s_M_rate_41 {ls : am_L} {st : List Value} {σ : am_H} {Q : Option Value → am_H → Prop} : ax k_M_rate 41 ls st σ Q = ax k_M_rate 42 ls (.int 0 :: st) σ Q := ru_iconst f_M_rate_41 (by decide +kernel) rfl
theorem f_M_rate_42 : am_cd k_M_rate 42 = some ((some .boolean), .ireturn, (0, 0, 0, 0, 0, .null)) := rfl
theorem s_M_rate_42 {ls : am_L} {σ : am_H} {Q : Option Value → am_H → Prop} {v : Int32} : ax k_M_rate 42 ls ([.int v]) σ Q = (am_nar .boolean v = true ∧ Q (some (.int v)) σ) := ru_iret f_M_rate_42
theorem f_M_rate_43 : am_cd k_M_rate 43 = some ((some .boolean), .aload_n 0, (0, 0, 0, 0, 0, .null)) := rfl
theorem s_M_rate_43 {a1 a2 : Option Value} {st : List Value} {σ : am_H} {Q : Option Value → am_H → Prop} {x : Nat} : ax k_M_rate 43 [some (.ref x), a1, a2] st σ Q = ax k_M_rate 44 [some (.ref x), a1, a2] (.ref x :: st) σ Q := ru_loc (q := (_, _)) f_M_rate_43 rfl rfl rfl
theorem f_M_rate_44 : am_cd k_M_rate 44 = some ((some .boolean), .getfield 142, (11, 58, 975, 0, 3, .null)) := rfl
theorem s_M_rate_44 {ls : am_L} {st : List Value} {σ : am_H} {Q : Option Value → am_H → Prop} {a : Nat} : ax k_M_rate 44 ls (.ref a :: st) σ Q = ax_f (am_fld σ a 11 58) (fun v => ax k_M_rate 47 ls (v :: st) σ Q) := ru_getf f_M_rate_44 rfl
theorem f_M_rate_47 : am_cd k_M_rate 47 = some ((some .boolean), .iload_n 1, (0, 0, 0, 0, 0, .null)) := rfl
theorem s_M_rate_47 {a0 a2 : Option Value} {st : List Value} {σ : am_H} {Q : Option Value → am_H → Prop} {x : Int32} : ax k_M_rate 47 [a0, some (.int x), a2] st σ Q = ax k_M_rate 48 [a0, some (.int x), a2] (.int x :: st) σ Q := ru_loc (q := (_, _)) f_M_rate_47 rfl rfl rfl
theorem f_M_rate_48 : am_cd k_M_rate 48 = some ((some .boolean), .iload_n 2, (0, 0, 0, 0, 0, .null)) := rfl
theorem s_M_rate_48 {a0 a1 : Option Value} {st : List Value} {σ : am_H} {Q : Option Value → am_H → Prop} {x : Int32} : ax k_M_rate 48 [a0, a1, some (.int x)] st σ Q = ax k_M_rate 49 [a0, a1, some (.int x)] (.int x :: st) σ Q := ru_loc (q := (_, _)) f_M_rate_48 rfl rfl rfl
theorem f_M_rate_49 : am_cd k_M_rate 49 = some ((some .boolean), .iastore, (0, 0, 0, 0, 0, .null)) := rfl
theorem s_M_rate_49 {ls : am_L} {st : List Value} {σ : am_H} {Q : Option Value → am_H → Prop} {a : Nat} {j x : Int32} : ax k_M_rate 49 ls (.int x :: .int j :: .ref a :: st) σ Q = ax_f (am_j σ a) (fun q => q.1 = 0 ∧ am_ix j q.2.1 ∧ a < am_top ∧ ax k_M_rate 50 ls st (am_set σ a (am_ia 0 q.2.1 (upd q.2.2 j.toNatClampNeg x))) Q) := rv_iast f_M_rate_49 rfl
theorem f_M_rate_50 : am_cd k_M_rate 50 = some ((some .boolean), .iconst 1, (0, 0, 0, 0, 0, .null)) := rfl
theorem s_M_rate_50 {ls : am_L} {st : List Value} {σ : am_H} {Q : Option Value → am_H → Prop} : ax k_M_rate 50 ls st σ Q = ax k_M_rate 51 ls (.int 1 :: st) σ Q := ru_iconst f_M_rate_50 (by decide +kernel) rfl
theorem f_M_rate_51 : am_cd k_M_rate 51 = some ((some .boolean), .ireturn, (0, 0, 0, 0, 0, .null)) := rfl
theorem s_M_rate_51 {ls : am_L} {σ : am_H} {Q : Option Value → am_H → Prop} {v : Int32} : ax k_M_rate 51 ls ([.int v]) σ Q = (am_nar .boolean v = true ∧ Q (some (.int v)) σ) := ru_iret f_M_rate_51
theorem f_M_sale_0 : am_cd k_M_sale 0 = some ((some .int), .aload_n 0, (0, 0, 0, 0, 0, .null)) := rfl
theorem s_M_sale_0 {a1 a2 a3 a4 a5 a6 a7 a8 a9 : Option Value} {st : List Value} {σ : am_H} {Q : Option Value → am_H → Prop} {x : Nat} : ax k_M_sale 0 [some (.ref x), a1, a2, a3, a4, a5, a6, a7, a8, a9] st σ Q = ax k_M_sale 1 [some (.ref x), a1, a2, a3, a4, a5, a6, a7, a8, a9] (.ref x :: st) σ Q := ru_loc (q := (_, _)) f_M_sale_0 rfl rfl rfl
theorem f_M_sale_1 : am_cd k_M_sale 1 = some ((some .int), .iload_n 1, (0, 0, 0, 0, 0, .null)) := rfl
theorem s_M_sale_1 {a0 a2 a3 a4 a5 a6 a7 a8 a9 : Option Value} {st : List Value} {σ : am_H} {Q : Option Value → am_H → Prop} {x : Int32} : ax k_M_sale 1 [a0, some (.int x), a2, a3, a4, a5, a6, a7, a8, a9] st σ Q = ax k_M_sale 2 [a0, some (.int x), a2, a3, a4, a5, a6, a7, a8, a9] (.int x :: st) σ Q := ru_loc (q := (_, _)) f_M_sale_1 rfl rfl rfl
theorem f_M_sale_2 : am_cd k_M_sale 2 = some ((some .int), .iload_n 2, (0, 0, 0, 0, 0, .null)) := rfl
theorem s_M_sale_2 {a0 a1 a3 a4 a5 a6 a7 a8 a9 : Option Value} {st : List Value} {σ : am_H} {Q : Option Value → am_H → Prop} {x : Int32} : ax k_M_sale 2 [a0, a1, some (.int x), a3, a4, a5, a6, a7, a8, a9] st σ Q = ax k_M_sale 3 [a0, a1, some (.int x), a3, a4, a5, a6, a7, a8, a9] (.int x :: st) σ Q := ru_loc (q := (_, _)) f_M_sale_2 rfl rfl rfl
theorem f_M_sale_3 : am_cd k_M_sale 3 = some ((some .int), .iload_n 3, (0, 0, 0, 0, 0, .null)) := rfl
theorem s_M_sale_3 {a0 a1 a2 a4 a5 a6 a7 a8 a9 : Option Value} {st : List Value} {σ : am_H} {Q : Option Value → am_H → Prop} {x : Int32} : ax k_M_sale 3 [a0, a1, a2, some (.int x), a4, a5, a6, a7, a8, a9] st σ Q = ax k_M_sale 4 [a0, a1, a2, some (.int x), a4, a5, a6, a7, a8, a9] (.int x :: st) σ Q := ru_loc (q := (_, _)) f_M_sale_3 rfl rfl rfl
theorem f_M_sale_4 : am_cd k_M_sale 4 = some ((some .int), .iload 4, (0, 0, 0, 0, 0, .null)) := rfl
theorem s_M_sale_4 {a0 a1 a2 a3 a5 a6 a7 a8 a9 : Option Value} {st : List Value} {σ : am_H} {Q : Option Value → am_H → Prop} {x : Int32} : ax k_M_sale 4 [a0, a1, a2, a3, some (.int x), a5, a6, a7, a8, a9] st σ Q = ax k_M_sale 6 [a0, a1, a2, a3, some (.int x), a5, a6, a7, a8, a9] (.int x :: st) σ Q := ru_loc (q := (_, _)) f_M_sale_4 rfl rfl rfl
theorem f_M_sale_6 : am_cd k_M_sale 6 = some ((some .int), .invokevirtual 296, (160, 4, 1288, 0, 11, .null)) := rfl
theorem s_M_sale_6 {ls : am_L} {st : List Value} {σ : am_H} {Q : Option Value → am_H → Prop} {p0 : Int32} {p1 : Int32} {p2 : Int32} {p3 : Int32} {b : Nat} (hi : am_is σ b 11) (h8 : am_s8 st) : ax k_M_sale 6 ls (.int p3 :: .int p2 :: .int p1 :: .int p0 :: .ref b :: st) σ Q = ax k_M_isUse 0 [some (.ref b), some (.int p0), some (.int p1), some (.int p2), some (.int p3)] [] σ (ax_k k_M_sale 9 ls st Q) := ru_vir (M' := rk_M_isUse) f_M_sale_6 rfl rfl rfl rfl hi h8 rfl rfl rfl rfl rfl
theorem f_M_sale_9 : am_cd k_M_sale 9 = some ((some .int), .ifCond .eq 41, (50, 0, 0, 0, 0, .null)) := rfl
theorem s_M_sale_9 {ls : am_L} {st : List Value} {σ : am_H} {Q : Option Value → am_H → Prop} {x : Int32} : ax k_M_sale 9 ls (.int x :: st) σ Q = (if x = 0 then ax k_M_sale 50 ls st σ Q else ax k_M_sale 12 ls st σ Q) := (ru_if f_M_sale_9 rfl).trans (ru_i_eq _ _ _ _)
theorem f_M_sale_12 : am_cd k_M_sale 12 = some ((some .int), .aload_n 0, (0, 0, 0, 0, 0, .null)) := rfl
theorem s_M_sale_12 {a1 a2 a3 a4 a5 a6 a7 a8 a9 : Option Value} {st : List Value} {σ : am_H} {Q : Option Value → am_H → Prop} {x : Nat} : ax k_M_sale 12 [some (.ref x), a1, a2, a3, a4, a5, a6, a7, a8, a9] st σ Q = ax k_M_sale 13 [some (.ref x), a1, a2, a3, a4, a5, a6, a7, a8, a9] (.ref x :: st) σ Q := ru_loc (q := (_, _)) f_M_sale_12 rfl rfl rfl
theorem f_M_sale_13 : am_cd k_M_sale 13 = some ((some .int), .iload 5, (0, 0, 0, 0, 0, .null)) := rfl
theorem s_M_sale_13 {a0 a1 a2 a3 a4 a6 a7 a8 a9 : Option Value} {st : List Value} {σ : am_H} {Q : Option Value → am_H → Prop} {x : Int32} : ax k_M_sale 13 [a0, a1, a2, a3, a4, some (.int x), a6, a7, a8, a9] st σ Q = ax k_M_sale 15 [a0, a1, a2, a3, a4, some (.int x), a6, a7, a8, a9] (.int x :: st) σ Q := ru_loc (q := (_, _)) f_M_sale_13 rfl rfl rfl
theorem f_M_sale_15 : am_cd k_M_sale 15 = some ((some .int), .invokevirtual 300, (162, 1, 1292, 0, 11, .null)) := rfl
theorem s_M_sale_15 {ls : am_L} {st : List Value} {σ : am_H} {Q : Option Value → am_H → Prop} {p0 : Int32} {b : Nat} (hi : am_is σ b 11) (h8 : am_s8 st) : ax k_M_sale 15 ls (.int p0 :: .ref b :: st) σ Q = ax k_M_isBeside 0 [some (.ref b), some (.int p0)] [] σ (ax_k k_M_sale 18 ls st Q) := ru_vir (M' := rk_M_isBeside) f_M_sale_15 rfl rfl rfl rfl hi h8 rfl rfl rfl rfl rfl
theorem f_M_sale_18 : am_cd k_M_sale 18 = some ((some .int), .ifCond .eq 32, (50, 0, 0, 0, 0, .null)) := rfl
theorem s_M_sale_18 {ls : am_L} {st : List Value} {σ : am_H} {Q : Option Value → am_H → Prop} {x : Int32} : ax k_M_sale 18 ls (.int x :: st) σ Q = (if x = 0 then ax k_M_sale 50 ls st σ Q else ax k_M_sale 21 ls st σ Q) := (ru_if f_M_sale_18 rfl).trans (ru_i_eq _ _ _ _)
theorem f_M_sale_21 : am_cd k_M_sale 21 = some ((some .int), .iload 6, (0, 0, 0, 0, 0, .null)) := rfl
theorem s_M_sale_21 {a0 a1 a2 a3 a4 a5 a7 a8 a9 : Option Value} {st : List Value} {σ : am_H} {Q : Option Value → am_H → Prop} {x : Int32} : ax k_M_sale 21 [a0, a1, a2, a3, a4, a5, some (.int x), a7, a8, a9] st σ Q = ax k_M_sale 23 [a0, a1, a2, a3, a4, a5, some (.int x), a7, a8, a9] (.int x :: st) σ Q := ru_loc (q := (_, _)) f_M_sale_21 rfl rfl rfl
theorem f_M_sale_23 : am_cd k_M_sale 23 = some ((some .int), .iconst (-1), (0, 0, 0, 0, 0, .null)) := rfl
theorem s_M_sale_23 {ls : am_L} {st : List Value} {σ : am_H} {Q : Option Value → am_H → Prop} : ax k_M_sale 23 ls st σ Q = ax k_M_sale 24 ls (.int (-1) :: st) σ Q := ru_iconst f_M_sale_23 (by decide +kernel) rfl
theorem f_M_sale_24 : am_cd k_M_sale 24 = some ((some .int), .if_icmp .eq 17, (41, 0, 0, 0, 0, .null)) := rfl
theorem s_M_sale_24 {ls : am_L} {st : List Value} {σ : am_H} {Q : Option Value → am_H → Prop} {x y : Int32} : ax k_M_sale 24 ls (.int y :: .int x :: st) σ Q = (if x = y then ax k_M_sale 41 ls st σ Q else ax k_M_sale 27 ls st σ Q) := (ru_icmp f_M_sale_24 rfl).trans (ru_i_eq _ _ _ _)
theorem f_M_sale_27 : am_cd k_M_sale 27 = some ((some .int), .iload 6, (0, 0, 0, 0, 0, .null)) := rfl
theorem s_M_sale_27 {a0 a1 a2 a3 a4 a5 a7 a8 a9 : Option Value} {st : List Value} {σ : am_H} {Q : Option Value → am_H → Prop} {x : Int32} : ax k_M_sale 27 [a0, a1, a2, a3, a4, a5, some (.int x), a7, a8, a9] st σ Q = ax k_M_sale 29 [a0, a1, a2, a3, a4, a5, some (.int x), a7, a8, a9] (.int x :: st) σ Q := ru_loc (q := (_, _)) f_M_sale_27 rfl rfl rfl
theorem f_M_sale_29 : am_cd k_M_sale 29 = some ((some .int), .aload_n 0, (0, 0, 0, 0, 0, .null)) := rfl
theorem s_M_sale_29 {a1 a2 a3 a4 a5 a6 a7 a8 a9 : Option Value} {st : List Value} {σ : am_H} {Q : Option Value → am_H → Prop} {x : Nat} : ax k_M_sale 29 [some (.ref x), a1, a2, a3, a4, a5, a6, a7, a8, a9] st σ Q = ax k_M_sale 30 [some (.ref x), a1, a2, a3, a4, a5, a6, a7, a8, a9] (.ref x :: st) σ Q := ru_loc (q := (_, _)) f_M_sale_29 rfl rfl rfl
theorem f_M_sale_30 : am_cd k_M_sale 30 = some ((some .int), .getfield 161, (11, 0, 917, 0, 0, .null)) := rfl
theorem s_M_sale_30 {ls : am_L} {st : List Value} {σ : am_H} {Q : Option Value → am_H → Prop} {a : Nat} : ax k_M_sale 30 ls (.ref a :: st) σ Q = ax_f (am_fld σ a 11 0) (fun v => ax k_M_sale 33 ls (v :: st) σ Q) := ru_getf f_M_sale_30 rfl
theorem f_M_sale_33 : am_cd k_M_sale 33 = some ((some .int), .ldc 164, (0, 0, 1109, 0, 0, .int (100000))) := rfl
theorem s_M_sale_33 {ls : am_L} {st : List Value} {σ : am_H} {Q : Option Value → am_H → Prop} : ax k_M_sale 33 ls st σ Q = ax k_M_sale 35 ls (.int (100000) :: st) σ Q := ru_rd f_M_sale_33 rfl rfl rfl rfl rfl
theorem f_M_sale_35 : am_cd k_M_sale 35 = some ((some .int), .invokestatic 154, (113, 3, 1110, 0, 11, .null)) := rfl
theorem s_M_sale_35 {ls : am_L} {st : List Value} {σ : am_H} {Q : Option Value → am_H → Prop} {p0 : Int32} {p1 : Int32} {p2 : Int32} (h8 : am_s8 st) : ax k_M_sale 35 ls (.int p2 :: .int p1 :: .int p0 :: st) σ Q = ax k_M_isIn 0 [some (.int p0), some (.int p1), some (.int p2)] [] σ (ax_k k_M_sale 38 ls st Q) := ru_sta (M' := rk_M_isIn) f_M_sale_35 rfl (by decide) rfl (by simp) rfl h8 rfl rfl rfl rfl rfl
theorem f_M_sale_38 : am_cd k_M_sale 38 = some ((some .int), .ifCond .eq 12, (50, 0, 0, 0, 0, .null)) := rfl
theorem s_M_sale_38 {ls : am_L} {st : List Value} {σ : am_H} {Q : Option Value → am_H → Prop} {x : Int32} : ax k_M_sale 38 ls (.int x :: st) σ Q = (if x = 0 then ax k_M_sale 50 ls st σ Q else ax k_M_sale 41 ls st σ Q) := (ru_if f_M_sale_38 rfl).trans (ru_i_eq _ _ _ _)
theorem f_M_sale_41 : am_cd k_M_sale 41 = some ((some .int), .aload_n 0, (0, 0, 0, 0, 0, .null)) := rfl
theorem s_M_sale_41 {a1 a2 a3 a4 a5 a6 a7 a8 a9 : Option Value} {st : List Value} {σ : am_H} {Q : Option Value → am_H → Prop} {x : Nat} : ax k_M_sale 41 [some (.ref x), a1, a2, a3, a4, a5, a6, a7, a8, a9] st σ Q = ax k_M_sale 42 [some (.ref x), a1, a2, a3, a4, a5, a6, a7, a8, a9] (.ref x :: st) σ Q := ru_loc (q := (_, _)) f_M_sale_41 rfl rfl rfl
theorem f_M_sale_42 : am_cd k_M_sale 42 = some ((some .int), .getfield 293, (11, 45, 962, 0, 0, .null)) := rfl
theorem s_M_sale_42 {ls : am_L} {st : List Value} {σ : am_H} {Q : Option Value → am_H → Prop} {a : Nat} : ax k_M_sale 42 ls (.ref a :: st) σ Q = ax_f (am_fld σ a 11 45) (fun v => ax k_M_sale 45 ls (v :: st) σ Q) := ru_getf f_M_sale_42 rfl
theorem f_M_sale_45 : am_cd k_M_sale 45 = some ((some .int), .bipush 60, (0, 0, 0, 0, 0, .null)) := rfl
theorem s_M_sale_45 {ls : am_L} {st : List Value} {σ : am_H} {Q : Option Value → am_H → Prop} : ax k_M_sale 45 ls st σ Q = ax k_M_sale 47 ls (.int 60 :: st) σ Q := ru_bipush f_M_sale_45 (by decide +kernel) rfl
theorem f_M_sale_47 : am_cd k_M_sale 47 = some ((some .int), .if_icmp .ne 7, (54, 0, 0, 0, 0, .null)) := rfl
theorem s_M_sale_47 {ls : am_L} {st : List Value} {σ : am_H} {Q : Option Value → am_H → Prop} {x y : Int32} : ax k_M_sale 47 ls (.int y :: .int x :: st) σ Q = (if x = y then ax k_M_sale 50 ls st σ Q else ax k_M_sale 54 ls st σ Q) := (ru_icmp f_M_sale_47 rfl).trans (ru_i_ne _ _ _ _)
theorem f_M_sale_50 : am_cd k_M_sale 50 = some ((some .int), .iconst 1, (0, 0, 0, 0, 0, .null)) := rfl
theorem s_M_sale_50 {ls : am_L} {st : List Value} {σ : am_H} {Q : Option Value → am_H → Prop} : ax k_M_sale 50 ls st σ Q = ax k_M_sale 51 ls (.int 1 :: st) σ Q := ru_iconst f_M_sale_50 (by decide +kernel) rfl
theorem f_M_sale_51 : am_cd k_M_sale 51 = some ((some .int), .goto 4, (55, 0, 0, 0, 0, .null)) := rfl
theorem s_M_sale_51 {ls : am_L} {st : List Value} {σ : am_H} {Q : Option Value → am_H → Prop} : ax k_M_sale 51 ls st σ Q = ax k_M_sale 55 ls st σ Q := ru_goto f_M_sale_51
theorem f_M_sale_54 : am_cd k_M_sale 54 = some ((some .int), .iconst 0, (0, 0, 0, 0, 0, .null)) := rfl
theorem s_M_sale_54 {ls : am_L} {st : List Value} {σ : am_H} {Q : Option Value → am_H → Prop} : ax k_M_sale 54 ls st σ Q = ax k_M_sale 55 ls (.int 0 :: st) σ Q := ru_iconst f_M_sale_54 (by decide +kernel) rfl
theorem f_M_sale_55 : am_cd k_M_sale 55 = some ((some .int), .istore 7, (0, 0, 0, 0, 0, .null)) := rfl
theorem s_M_sale_55 {a0 a1 a2 a3 a4 a5 a6 a7 a8 a9 : Option Value} {st : List Value} {σ : am_H} {Q : Option Value → am_H → Prop} {x : Int32} (hc : am_c2 a6 = false) : ax k_M_sale 55 [a0, a1, a2, a3, a4, a5, a6, a7, a8, a9] (.int x :: st) σ Q = ax k_M_sale 57 [a0, a1, a2, a3, a4, a5, a6, some (.int x), a8, a9] st σ Q := ru_istore f_M_sale_55 (Nat.le_of_ble_eq_true rfl) (ru_st1 (Nat.le_of_ble_eq_true rfl) (am_clr_c2 hc rfl) rfl) rfl
theorem f_M_sale_57 : am_cd k_M_sale 57 = some ((some .int), .iload 7, (0, 0, 0, 0, 0, .null)) := rfl
theorem s_M_sale_57 {a0 a1 a2 a3 a4 a5 a6 a8 a9 : Option Value} {st : List Value} {σ : am_H} {Q : Option Value → am_H → Prop} {x : Int32} : ax k_M_sale 57 [a0, a1, a2, a3, a4, a5, a6, some (.int x), a8, a9] st σ Q = ax k_M_sale 59 [a0, a1, a2, a3, a4, a5, a6, some (.int x), a8, a9] (.int x :: st) σ Q := ru_loc (q := (_, _)) f_M_sale_57 rfl rfl rfl
theorem f_M_sale_59 : am_cd k_M_sale 59 = some ((some .int), .ifCond .ne 17, (76, 0, 0, 0, 0, .null)) := rfl
theorem s_M_sale_59 {ls : am_L} {st : List Value} {σ : am_H} {Q : Option Value → am_H → Prop} {x : Int32} : ax k_M_sale 59 ls (.int x :: st) σ Q = (if x = 0 then ax k_M_sale 62 ls st σ Q else ax k_M_sale 76 ls st σ Q) := (ru_if f_M_sale_59 rfl).trans (ru_i_ne _ _ _ _)
theorem f_M_sale_62 : am_cd k_M_sale 62 = some ((some .int), .aload_n 0, (0, 0, 0, 0, 0, .null)) := rfl
theorem s_M_sale_62 {a1 a2 a3 a4 a5 a6 a7 a8 a9 : Option Value} {st : List Value} {σ : am_H} {Q : Option Value → am_H → Prop} {x : Nat} : ax k_M_sale 62 [some (.ref x), a1, a2, a3, a4, a5, a6, a7, a8, a9] st σ Q = ax k_M_sale 63 [some (.ref x), a1, a2, a3, a4, a5, a6, a7, a8, a9] (.ref x :: st) σ Q := ru_loc (q := (_, _)) f_M_sale_62 rfl rfl rfl
theorem f_M_sale_63 : am_cd k_M_sale 63 = some ((some .int), .iload_n 1, (0, 0, 0, 0, 0, .null)) := rfl
theorem s_M_sale_63 {a0 a2 a3 a4 a5 a6 a7 a8 a9 : Option Value} {st : List Value} {σ : am_H} {Q : Option Value → am_H → Prop} {x : Int32} : ax k_M_sale 63 [a0, some (.int x), a2, a3, a4, a5, a6, a7, a8, a9] st σ Q = ax k_M_sale 64 [a0, some (.int x), a2, a3, a4, a5, a6, a7, a8, a9] (.int x :: st) σ Q := ru_loc (q := (_, _)) f_M_sale_63 rfl rfl rfl
theorem f_M_sale_64 : am_cd k_M_sale 64 = some ((some .int), .iload_n 2, (0, 0, 0, 0, 0, .null)) := rfl
theorem s_M_sale_64 {a0 a1 a3 a4 a5 a6 a7 a8 a9 : Option Value} {st : List Value} {σ : am_H} {Q : Option Value → am_H → Prop} {x : Int32} : ax k_M_sale 64 [a0, a1, some (.int x), a3, a4, a5, a6, a7, a8, a9] st σ Q = ax k_M_sale 65 [a0, a1, some (.int x), a3, a4, a5, a6, a7, a8, a9] (.int x :: st) σ Q := ru_loc (q := (_, _)) f_M_sale_64 rfl rfl rfl
theorem f_M_sale_65 : am_cd k_M_sale 65 = some ((some .int), .iload_n 3, (0, 0, 0, 0, 0, .null)) := rfl
theorem s_M_sale_65 {a0 a1 a2 a4 a5 a6 a7 a8 a9 : Option Value} {st : List Value} {σ : am_H} {Q : Option Value → am_H → Prop} {x : Int32} : ax k_M_sale 65 [a0, a1, a2, some (.int x), a4, a5, a6, a7, a8, a9] st σ Q = ax k_M_sale 66 [a0, a1, a2, some (.int x), a4, a5, a6, a7, a8, a9] (.int x :: st) σ Q := ru_loc (q := (_, _)) f_M_sale_65 rfl rfl rfl
theorem f_M_sale_66 : am_cd k_M_sale 66 = some ((some .int), .iload 4, (0, 0, 0, 0, 0, .null)) := rfl
theorem s_M_sale_66 {a0 a1 a2 a3 a5 a6 a7 a8 a9 : Option Value} {st : List Value} {σ : am_H} {Q : Option Value → am_H → Prop} {x : Int32} : ax k_M_sale 66 [a0, a1, a2, a3, some (.int x), a5, a6, a7, a8, a9] st σ Q = ax k_M_sale 68 [a0, a1, a2, a3, some (.int x), a5, a6, a7, a8, a9] (.int x :: st) σ Q := ru_loc (q := (_, _)) f_M_sale_66 rfl rfl rfl
theorem f_M_sale_68 : am_cd k_M_sale 68 = some ((some .int), .iload 5, (0, 0, 0, 0, 0, .null)) := rfl
theorem s_M_sale_68 {a0 a1 a2 a3 a4 a6 a7 a8 a9 : Option Value} {st : List Value} {σ : am_H} {Q : Option Value → am_H → Prop} {x : Int32} : ax k_M_sale 68 [a0, a1, a2, a3, a4, some (.int x), a6, a7, a8, a9] st σ Q = ax k_M_sale 70 [a0, a1, a2, a3, a4, some (.int x), a6, a7, a8, a9] (.int x :: st) σ Q := ru_loc (q := (_, _)) f_M_sale_68 rfl rfl rfl
theorem f_M_sale_70 : am_cd k_M_sale 70 = some ((some .int), .invokevirtual 303, (161, 5, 1296, 0, 11, .null)) := rfl
theorem s_M_sale_70 {ls : am_L} {st : List Value} {σ : am_H} {Q : Option Value → am_H → Prop} {p0 : Int32} {p1 : Int32} {p2 : Int32} {p3 : Int32} {p4 : Int32} {b : Nat} (hi : am_is σ b 11) (h8 : am_s8 st) : ax k_M_sale 70 ls (.int p4 :: .int p3 :: .int p2 :: .int p1 :: .int p0 :: .ref b :: st) σ Q = ax k_M_whyNot 0 [some (.ref b), some (.int p0), some (.int p1), some (.int p2), some (.int p3), some (.int p4), none] [] σ (ax_k k_M_sale 73 ls st Q) := ru_vir (M' := rk_M_whyNot) f_M_sale_70 rfl rfl rfl rfl hi h8 rfl rfl rfl rfl rfl
theorem f_M_sale_73 : am_cd k_M_sale 73 = some ((some .int), .ifCond .eq 5, (78, 0, 0, 0, 0, .null)) := rfl
theorem s_M_sale_73 {ls : am_L} {st : List Value} {σ : am_H} {Q : Option Value → am_H → Prop} {x : Int32} : ax k_M_sale 73 ls (.int x :: st) σ Q = (if x = 0 then ax k_M_sale 78 ls st σ Q else ax k_M_sale 76 ls st σ Q) := (ru_if f_M_sale_73 rfl).trans (ru_i_eq _ _ _ _)
theorem f_M_sale_76 : am_cd k_M_sale 76 = some ((some .int), .iconst (-1), (0, 0, 0, 0, 0, .null)) := rfl
theorem s_M_sale_76 {ls : am_L} {st : List Value} {σ : am_H} {Q : Option Value → am_H → Prop} : ax k_M_sale 76 ls st σ Q = ax k_M_sale 77 ls (.int (-1) :: st) σ Q := ru_iconst f_M_sale_76 (by decide +kernel) rfl
theorem f_M_sale_77 : am_cd k_M_sale 77 = some ((some .int), .ireturn, (0, 0, 0, 0, 0, .null)) := rfl
theorem s_M_sale_77 {ls : am_L} {σ : am_H} {Q : Option Value → am_H → Prop} {v : Int32} : ax k_M_sale 77 ls [.int v] σ Q = Q (some (.int v)) σ := ru_iretI f_M_sale_77
theorem f_M_sale_78 : am_cd k_M_sale 78 = some ((some .int), .aload_n 0, (0, 0, 0, 0, 0, .null)) := rfl
theorem s_M_sale_78 {a1 a2 a3 a4 a5 a6 a7 a8 a9 : Option Value} {st : List Value} {σ : am_H} {Q : Option Value → am_H → Prop} {x : Nat} : ax k_M_sale 78 [some (.ref x), a1, a2, a3, a4, a5, a6, a7, a8, a9] st σ Q = ax k_M_sale 79 [some (.ref x), a1, a2, a3, a4, a5, a6, a7, a8, a9] (.ref x :: st) σ Q := ru_loc (q := (_, _)) f_M_sale_78 rfl rfl rfl
theorem f_M_sale_79 : am_cd k_M_sale 79 = some ((some .int), .getfield 293, (11, 45, 962, 0, 0, .null)) := rfl
theorem s_M_sale_79 {ls : am_L} {st : List Value} {σ : am_H} {Q : Option Value → am_H → Prop} {a : Nat} : ax k_M_sale 79 ls (.ref a :: st) σ Q = ax_f (am_fld σ a 11 45) (fun v => ax k_M_sale 82 ls (v :: st) σ Q) := ru_getf f_M_sale_79 rfl
theorem f_M_sale_82 : am_cd k_M_sale 82 = some ((some .int), .istore 8, (0, 0, 0, 0, 0, .null)) := rfl
theorem s_M_sale_82 {a0 a1 a2 a3 a4 a5 a6 a7 a8 a9 : Option Value} {st : List Value} {σ : am_H} {Q : Option Value → am_H → Prop} {x : Int32} (hc : am_c2 a7 = false) : ax k_M_sale 82 [a0, a1, a2, a3, a4, a5, a6, a7, a8, a9] (.int x :: st) σ Q = ax k_M_sale 84 [a0, a1, a2, a3, a4, a5, a6, a7, some (.int x), a9] st σ Q := ru_istore f_M_sale_82 (Nat.le_of_ble_eq_true rfl) (ru_st1 (Nat.le_of_ble_eq_true rfl) (am_clr_c2 hc rfl) rfl) rfl
theorem f_M_sale_84 : am_cd k_M_sale 84 = some ((some .int), .aload_n 0, (0, 0, 0, 0, 0, .null)) := rfl
theorem s_M_sale_84 {a1 a2 a3 a4 a5 a6 a7 a8 a9 : Option Value} {st : List Value} {σ : am_H} {Q : Option Value → am_H → Prop} {x : Nat} : ax k_M_sale 84 [some (.ref x), a1, a2, a3, a4, a5, a6, a7, a8, a9] st σ Q = ax k_M_sale 85 [some (.ref x), a1, a2, a3, a4, a5, a6, a7, a8, a9] (.ref x :: st) σ Q := ru_loc (q := (_, _)) f_M_sale_84 rfl rfl rfl
theorem f_M_sale_85 : am_cd k_M_sale 85 = some ((some .int), .getfield 106, (11, 46, 963, 0, 3, .null)) := rfl
theorem s_M_sale_85 {ls : am_L} {st : List Value} {σ : am_H} {Q : Option Value → am_H → Prop} {a : Nat} : ax k_M_sale 85 ls (.ref a :: st) σ Q = ax_f (am_fld σ a 11 46) (fun v => ax k_M_sale 88 ls (v :: st) σ Q) := ru_getf f_M_sale_85 rfl
theorem f_M_sale_88 : am_cd k_M_sale 88 = some ((some .int), .iload 8, (0, 0, 0, 0, 0, .null)) := rfl
theorem s_M_sale_88 {a0 a1 a2 a3 a4 a5 a6 a7 a9 : Option Value} {st : List Value} {σ : am_H} {Q : Option Value → am_H → Prop} {x : Int32} : ax k_M_sale 88 [a0, a1, a2, a3, a4, a5, a6, a7, some (.int x), a9] st σ Q = ax k_M_sale 90 [a0, a1, a2, a3, a4, a5, a6, a7, some (.int x), a9] (.int x :: st) σ Q := ru_loc (q := (_, _)) f_M_sale_88 rfl rfl rfl
theorem f_M_sale_90 : am_cd k_M_sale 90 = some ((some .int), .iload_n 1, (0, 0, 0, 0, 0, .null)) := rfl
theorem s_M_sale_90 {a0 a2 a3 a4 a5 a6 a7 a8 a9 : Option Value} {st : List Value} {σ : am_H} {Q : Option Value → am_H → Prop} {x : Int32} : ax k_M_sale 90 [a0, some (.int x), a2, a3, a4, a5, a6, a7, a8, a9] st σ Q = ax k_M_sale 91 [a0, some (.int x), a2, a3, a4, a5, a6, a7, a8, a9] (.int x :: st) σ Q := ru_loc (q := (_, _)) f_M_sale_90 rfl rfl rfl
theorem f_M_sale_91 : am_cd k_M_sale 91 = some ((some .int), .iastore, (0, 0, 0, 0, 0, .null)) := rfl
theorem s_M_sale_91 {ls : am_L} {st : List Value} {σ : am_H} {Q : Option Value → am_H → Prop} {a : Nat} {j x : Int32} : ax k_M_sale 91 ls (.int x :: .int j :: .ref a :: st) σ Q = ax_f (am_j σ a) (fun q => q.1 = 0 ∧ am_ix j q.2.1 ∧ a < am_top ∧ ax k_M_sale 92 ls st (am_set σ a (am_ia 0 q.2.1 (upd q.2.2 j.toNatClampNeg x))) Q) := rv_iast f_M_sale_91 rfl
theorem f_M_sale_92 : am_cd k_M_sale 92 = some ((some .int), .aload_n 0, (0, 0, 0, 0, 0, .null)) := rfl
theorem s_M_sale_92 {a1 a2 a3 a4 a5 a6 a7 a8 a9 : Option Value} {st : List Value} {σ : am_H} {Q : Option Value → am_H → Prop} {x : Nat} : ax k_M_sale 92 [some (.ref x), a1, a2, a3, a4, a5, a6, a7, a8, a9] st σ Q = ax k_M_sale 93 [some (.ref x), a1, a2, a3, a4, a5, a6, a7, a8, a9] (.ref x :: st) σ Q := ru_loc (q := (_, _)) f_M_sale_92 rfl rfl rfl
theorem f_M_sale_93 : am_cd k_M_sale 93 = some ((some .int), .getfield 109, (11, 47, 964, 0, 3, .null)) := rfl
theorem s_M_sale_93 {ls : am_L} {st : List Value} {σ : am_H} {Q : Option Value → am_H → Prop} {a : Nat} : ax k_M_sale 93 ls (.ref a :: st) σ Q = ax_f (am_fld σ a 11 47) (fun v => ax k_M_sale 96 ls (v :: st) σ Q) := ru_getf f_M_sale_93 rfl
theorem f_M_sale_96 : am_cd k_M_sale 96 = some ((some .int), .iload 8, (0, 0, 0, 0, 0, .null)) := rfl
theorem s_M_sale_96 {a0 a1 a2 a3 a4 a5 a6 a7 a9 : Option Value} {st : List Value} {σ : am_H} {Q : Option Value → am_H → Prop} {x : Int32} : ax k_M_sale 96 [a0, a1, a2, a3, a4, a5, a6, a7, some (.int x), a9] st σ Q = ax k_M_sale 98 [a0, a1, a2, a3, a4, a5, a6, a7, some (.int x), a9] (.int x :: st) σ Q := ru_loc (q := (_, _)) f_M_sale_96 rfl rfl rfl
theorem f_M_sale_98 : am_cd k_M_sale 98 = some ((some .int), .iload_n 2, (0, 0, 0, 0, 0, .null)) := rfl
theorem s_M_sale_98 {a0 a1 a3 a4 a5 a6 a7 a8 a9 : Option Value} {st : List Value} {σ : am_H} {Q : Option Value → am_H → Prop} {x : Int32} : ax k_M_sale 98 [a0, a1, some (.int x), a3, a4, a5, a6, a7, a8, a9] st σ Q = ax k_M_sale 99 [a0, a1, some (.int x), a3, a4, a5, a6, a7, a8, a9] (.int x :: st) σ Q := ru_loc (q := (_, _)) f_M_sale_98 rfl rfl rfl
theorem f_M_sale_99 : am_cd k_M_sale 99 = some ((some .int), .iastore, (0, 0, 0, 0, 0, .null)) := rfl
theorem s_M_sale_99 {ls : am_L} {st : List Value} {σ : am_H} {Q : Option Value → am_H → Prop} {a : Nat} {j x : Int32} : ax k_M_sale 99 ls (.int x :: .int j :: .ref a :: st) σ Q = ax_f (am_j σ a) (fun q => q.1 = 0 ∧ am_ix j q.2.1 ∧ a < am_top ∧ ax k_M_sale 100 ls st (am_set σ a (am_ia 0 q.2.1 (upd q.2.2 j.toNatClampNeg x))) Q) := rv_iast f_M_sale_99 rfl
theorem f_M_sale_100 : am_cd k_M_sale 100 = some ((some .int), .aload_n 0, (0, 0, 0, 0, 0, .null)) := rfl
theorem s_M_sale_100 {a1 a2 a3 a4 a5 a6 a7 a8 a9 : Option Value} {st : List Value} {σ : am_H} {Q : Option Value → am_H → Prop} {x : Nat} : ax k_M_sale 100 [some (.ref x), a1, a2, a3, a4, a5, a6, a7, a8, a9] st σ Q = ax k_M_sale 101 [some (.ref x), a1, a2, a3, a4, a5, a6, a7, a8, a9] (.ref x :: st) σ Q := ru_loc (q := (_, _)) f_M_sale_100 rfl rfl rfl
theorem f_M_sale_101 : am_cd k_M_sale 101 = some ((some .int), .getfield 112, (11, 48, 965, 0, 3, .null)) := rfl
theorem s_M_sale_101 {ls : am_L} {st : List Value} {σ : am_H} {Q : Option Value → am_H → Prop} {a : Nat} : ax k_M_sale 101 ls (.ref a :: st) σ Q = ax_f (am_fld σ a 11 48) (fun v => ax k_M_sale 104 ls (v :: st) σ Q) := ru_getf f_M_sale_101 rfl
theorem f_M_sale_104 : am_cd k_M_sale 104 = some ((some .int), .iload 8, (0, 0, 0, 0, 0, .null)) := rfl
theorem s_M_sale_104 {a0 a1 a2 a3 a4 a5 a6 a7 a9 : Option Value} {st : List Value} {σ : am_H} {Q : Option Value → am_H → Prop} {x : Int32} : ax k_M_sale 104 [a0, a1, a2, a3, a4, a5, a6, a7, some (.int x), a9] st σ Q = ax k_M_sale 106 [a0, a1, a2, a3, a4, a5, a6, a7, some (.int x), a9] (.int x :: st) σ Q := ru_loc (q := (_, _)) f_M_sale_104 rfl rfl rfl
theorem f_M_sale_106 : am_cd k_M_sale 106 = some ((some .int), .iload_n 3, (0, 0, 0, 0, 0, .null)) := rfl
theorem s_M_sale_106 {a0 a1 a2 a4 a5 a6 a7 a8 a9 : Option Value} {st : List Value} {σ : am_H} {Q : Option Value → am_H → Prop} {x : Int32} : ax k_M_sale 106 [a0, a1, a2, some (.int x), a4, a5, a6, a7, a8, a9] st σ Q = ax k_M_sale 107 [a0, a1, a2, some (.int x), a4, a5, a6, a7, a8, a9] (.int x :: st) σ Q := ru_loc (q := (_, _)) f_M_sale_106 rfl rfl rfl
theorem f_M_sale_107 : am_cd k_M_sale 107 = some ((some .int), .iastore, (0, 0, 0, 0, 0, .null)) := rfl
theorem s_M_sale_107 {ls : am_L} {st : List Value} {σ : am_H} {Q : Option Value → am_H → Prop} {a : Nat} {j x : Int32} : ax k_M_sale 107 ls (.int x :: .int j :: .ref a :: st) σ Q = ax_f (am_j σ a) (fun q => q.1 = 0 ∧ am_ix j q.2.1 ∧ a < am_top ∧ ax k_M_sale 108 ls st (am_set σ a (am_ia 0 q.2.1 (upd q.2.2 j.toNatClampNeg x))) Q) := rv_iast f_M_sale_107 rfl
theorem f_M_sale_108 : am_cd k_M_sale 108 = some ((some .int), .aload_n 0, (0, 0, 0, 0, 0, .null)) := rfl
theorem s_M_sale_108 {a1 a2 a3 a4 a5 a6 a7 a8 a9 : Option Value} {st : List Value} {σ : am_H} {Q : Option Value → am_H → Prop} {x : Nat} : ax k_M_sale 108 [some (.ref x), a1, a2, a3, a4, a5, a6, a7, a8, a9] st σ Q = ax k_M_sale 109 [some (.ref x), a1, a2, a3, a4, a5, a6, a7, a8, a9] (.ref x :: st) σ Q := ru_loc (q := (_, _)) f_M_sale_108 rfl rfl rfl
theorem f_M_sale_109 : am_cd k_M_sale 109 = some ((some .int), .getfield 115, (11, 49, 966, 0, 3, .null)) := rfl
theorem s_M_sale_109 {ls : am_L} {st : List Value} {σ : am_H} {Q : Option Value → am_H → Prop} {a : Nat} : ax k_M_sale 109 ls (.ref a :: st) σ Q = ax_f (am_fld σ a 11 49) (fun v => ax k_M_sale 112 ls (v :: st) σ Q) := ru_getf f_M_sale_109 rfl
theorem f_M_sale_112 : am_cd k_M_sale 112 = some ((some .int), .iload 8, (0, 0, 0, 0, 0, .null)) := rfl
theorem s_M_sale_112 {a0 a1 a2 a3 a4 a5 a6 a7 a9 : Option Value} {st : List Value} {σ : am_H} {Q : Option Value → am_H → Prop} {x : Int32} : ax k_M_sale 112 [a0, a1, a2, a3, a4, a5, a6, a7, some (.int x), a9] st σ Q = ax k_M_sale 114 [a0, a1, a2, a3, a4, a5, a6, a7, some (.int x), a9] (.int x :: st) σ Q := ru_loc (q := (_, _)) f_M_sale_112 rfl rfl rfl
theorem f_M_sale_114 : am_cd k_M_sale 114 = some ((some .int), .iload 4, (0, 0, 0, 0, 0, .null)) := rfl
theorem s_M_sale_114 {a0 a1 a2 a3 a5 a6 a7 a8 a9 : Option Value} {st : List Value} {σ : am_H} {Q : Option Value → am_H → Prop} {x : Int32} : ax k_M_sale 114 [a0, a1, a2, a3, some (.int x), a5, a6, a7, a8, a9] st σ Q = ax k_M_sale 116 [a0, a1, a2, a3, some (.int x), a5, a6, a7, a8, a9] (.int x :: st) σ Q := ru_loc (q := (_, _)) f_M_sale_114 rfl rfl rfl
theorem f_M_sale_116 : am_cd k_M_sale 116 = some ((some .int), .iastore, (0, 0, 0, 0, 0, .null)) := rfl
theorem s_M_sale_116 {ls : am_L} {st : List Value} {σ : am_H} {Q : Option Value → am_H → Prop} {a : Nat} {j x : Int32} : ax k_M_sale 116 ls (.int x :: .int j :: .ref a :: st) σ Q = ax_f (am_j σ a) (fun q => q.1 = 0 ∧ am_ix j q.2.1 ∧ a < am_top ∧ ax k_M_sale 117 ls st (am_set σ a (am_ia 0 q.2.1 (upd q.2.2 j.toNatClampNeg x))) Q) := rv_iast f_M_sale_116 rfl
theorem f_M_sale_117 : am_cd k_M_sale 117 = some ((some .int), .aload_n 0, (0, 0, 0, 0, 0, .null)) := rfl
theorem s_M_sale_117 {a1 a2 a3 a4 a5 a6 a7 a8 a9 : Option Value} {st : List Value} {σ : am_H} {Q : Option Value → am_H → Prop} {x : Nat} : ax k_M_sale 117 [some (.ref x), a1, a2, a3, a4, a5, a6, a7, a8, a9] st σ Q = ax k_M_sale 118 [some (.ref x), a1, a2, a3, a4, a5, a6, a7, a8, a9] (.ref x :: st) σ Q := ru_loc (q := (_, _)) f_M_sale_117 rfl rfl rfl
theorem f_M_sale_118 : am_cd k_M_sale 118 = some ((some .int), .getfield 118, (11, 50, 967, 0, 3, .null)) := rfl
theorem s_M_sale_118 {ls : am_L} {st : List Value} {σ : am_H} {Q : Option Value → am_H → Prop} {a : Nat} : ax k_M_sale 118 ls (.ref a :: st) σ Q = ax_f (am_fld σ a 11 50) (fun v => ax k_M_sale 121 ls (v :: st) σ Q) := ru_getf f_M_sale_118 rfl
theorem f_M_sale_121 : am_cd k_M_sale 121 = some ((some .int), .iload 8, (0, 0, 0, 0, 0, .null)) := rfl
theorem s_M_sale_121 {a0 a1 a2 a3 a4 a5 a6 a7 a9 : Option Value} {st : List Value} {σ : am_H} {Q : Option Value → am_H → Prop} {x : Int32} : ax k_M_sale 121 [a0, a1, a2, a3, a4, a5, a6, a7, some (.int x), a9] st σ Q = ax k_M_sale 123 [a0, a1, a2, a3, a4, a5, a6, a7, some (.int x), a9] (.int x :: st) σ Q := ru_loc (q := (_, _)) f_M_sale_121 rfl rfl rfl
theorem f_M_sale_123 : am_cd k_M_sale 123 = some ((some .int), .aload_n 0, (0, 0, 0, 0, 0, .null)) := rfl
theorem s_M_sale_123 {a1 a2 a3 a4 a5 a6 a7 a8 a9 : Option Value} {st : List Value} {σ : am_H} {Q : Option Value → am_H → Prop} {x : Nat} : ax k_M_sale 123 [some (.ref x), a1, a2, a3, a4, a5, a6, a7, a8, a9] st σ Q = ax k_M_sale 124 [some (.ref x), a1, a2, a3, a4, a5, a6, a7, a8, a9] (.ref x :: st) σ Q := ru_loc (q := (_, _)) f_M_sale_123 rfl rfl rfl
theorem f_M_sale_124 : am_cd k_M_sale 124 = some ((some .int), .getfield 161, (11, 0, 917, 0, 0, .null)) := rfl
theorem s_M_sale_124 {ls : am_L} {st : List Value} {σ : am_H} {Q : Option Value → am_H → Prop} {a : Nat} : ax k_M_sale 124 ls (.ref a :: st) σ Q = ax_f (am_fld σ a 11 0) (fun v => ax k_M_sale 127 ls (v :: st) σ Q) := ru_getf f_M_sale_124 rfl
theorem f_M_sale_127 : am_cd k_M_sale 127 = some ((some .int), .iastore, (0, 0, 0, 0, 0, .null)) := rfl
theorem s_M_sale_127 {ls : am_L} {st : List Value} {σ : am_H} {Q : Option Value → am_H → Prop} {a : Nat} {j x : Int32} : ax k_M_sale 127 ls (.int x :: .int j :: .ref a :: st) σ Q = ax_f (am_j σ a) (fun q => q.1 = 0 ∧ am_ix j q.2.1 ∧ a < am_top ∧ ax k_M_sale 128 ls st (am_set σ a (am_ia 0 q.2.1 (upd q.2.2 j.toNatClampNeg x))) Q) := rv_iast f_M_sale_127 rfl
theorem f_M_sale_128 : am_cd k_M_sale 128 = some ((some .int), .aload_n 0, (0, 0, 0, 0, 0, .null)) := rfl
theorem s_M_sale_128 {a1 a2 a3 a4 a5 a6 a7 a8 a9 : Option Value} {st : List Value} {σ : am_H} {Q : Option Value → am_H → Prop} {x : Nat} : ax k_M_sale 128 [some (.ref x), a1, a2, a3, a4, a5, a6, a7, a8, a9] st σ Q = ax k_M_sale 129 [some (.ref x), a1, a2, a3, a4, a5, a6, a7, a8, a9] (.ref x :: st) σ Q := ru_loc (q := (_, _)) f_M_sale_128 rfl rfl rfl
theorem f_M_sale_129 : am_cd k_M_sale 129 = some ((some .int), .getfield 121, (11, 51, 968, 0, 3, .null)) := rfl
theorem s_M_sale_129 {ls : am_L} {st : List Value} {σ : am_H} {Q : Option Value → am_H → Prop} {a : Nat} : ax k_M_sale 129 ls (.ref a :: st) σ Q = ax_f (am_fld σ a 11 51) (fun v => ax k_M_sale 132 ls (v :: st) σ Q) := ru_getf f_M_sale_129 rfl
theorem f_M_sale_132 : am_cd k_M_sale 132 = some ((some .int), .iload 8, (0, 0, 0, 0, 0, .null)) := rfl
theorem s_M_sale_132 {a0 a1 a2 a3 a4 a5 a6 a7 a9 : Option Value} {st : List Value} {σ : am_H} {Q : Option Value → am_H → Prop} {x : Int32} : ax k_M_sale 132 [a0, a1, a2, a3, a4, a5, a6, a7, some (.int x), a9] st σ Q = ax k_M_sale 134 [a0, a1, a2, a3, a4, a5, a6, a7, some (.int x), a9] (.int x :: st) σ Q := ru_loc (q := (_, _)) f_M_sale_132 rfl rfl rfl
theorem f_M_sale_134 : am_cd k_M_sale 134 = some ((some .int), .iload 6, (0, 0, 0, 0, 0, .null)) := rfl
theorem s_M_sale_134 {a0 a1 a2 a3 a4 a5 a7 a8 a9 : Option Value} {st : List Value} {σ : am_H} {Q : Option Value → am_H → Prop} {x : Int32} : ax k_M_sale 134 [a0, a1, a2, a3, a4, a5, some (.int x), a7, a8, a9] st σ Q = ax k_M_sale 136 [a0, a1, a2, a3, a4, a5, some (.int x), a7, a8, a9] (.int x :: st) σ Q := ru_loc (q := (_, _)) f_M_sale_134 rfl rfl rfl
theorem f_M_sale_136 : am_cd k_M_sale 136 = some ((some .int), .iastore, (0, 0, 0, 0, 0, .null)) := rfl
theorem s_M_sale_136 {ls : am_L} {st : List Value} {σ : am_H} {Q : Option Value → am_H → Prop} {a : Nat} {j x : Int32} : ax k_M_sale 136 ls (.int x :: .int j :: .ref a :: st) σ Q = ax_f (am_j σ a) (fun q => q.1 = 0 ∧ am_ix j q.2.1 ∧ a < am_top ∧ ax k_M_sale 137 ls st (am_set σ a (am_ia 0 q.2.1 (upd q.2.2 j.toNatClampNeg x))) Q) := rv_iast f_M_sale_136 rfl
theorem f_M_sale_137 : am_cd k_M_sale 137 = some ((some .int), .aload_n 0, (0, 0, 0, 0, 0, .null)) := rfl
theorem s_M_sale_137 {a1 a2 a3 a4 a5 a6 a7 a8 a9 : Option Value} {st : List Value} {σ : am_H} {Q : Option Value → am_H → Prop} {x : Nat} : ax k_M_sale 137 [some (.ref x), a1, a2, a3, a4, a5, a6, a7, a8, a9] st σ Q = ax k_M_sale 138 [some (.ref x), a1, a2, a3, a4, a5, a6, a7, a8, a9] (.ref x :: st) σ Q := ru_loc (q := (_, _)) f_M_sale_137 rfl rfl rfl
theorem f_M_sale_138 : am_cd k_M_sale 138 = some ((some .int), .getfield 124, (11, 52, 969, 0, 3, .null)) := rfl
theorem s_M_sale_138 {ls : am_L} {st : List Value} {σ : am_H} {Q : Option Value → am_H → Prop} {a : Nat} : ax k_M_sale 138 ls (.ref a :: st) σ Q = ax_f (am_fld σ a 11 52) (fun v => ax k_M_sale 141 ls (v :: st) σ Q) := ru_getf f_M_sale_138 rfl
theorem f_M_sale_141 : am_cd k_M_sale 141 = some ((some .int), .iload 8, (0, 0, 0, 0, 0, .null)) := rfl
theorem s_M_sale_141 {a0 a1 a2 a3 a4 a5 a6 a7 a9 : Option Value} {st : List Value} {σ : am_H} {Q : Option Value → am_H → Prop} {x : Int32} : ax k_M_sale 141 [a0, a1, a2, a3, a4, a5, a6, a7, some (.int x), a9] st σ Q = ax k_M_sale 143 [a0, a1, a2, a3, a4, a5, a6, a7, some (.int x), a9] (.int x :: st) σ Q := ru_loc (q := (_, _)) f_M_sale_141 rfl rfl rfl
theorem f_M_sale_143 : am_cd k_M_sale 143 = some ((some .int), .aload_n 0, (0, 0, 0, 0, 0, .null)) := rfl
theorem s_M_sale_143 {a1 a2 a3 a4 a5 a6 a7 a8 a9 : Option Value} {st : List Value} {σ : am_H} {Q : Option Value → am_H → Prop} {x : Nat} : ax k_M_sale 143 [some (.ref x), a1, a2, a3, a4, a5, a6, a7, a8, a9] st σ Q = ax k_M_sale 144 [some (.ref x), a1, a2, a3, a4, a5, a6, a7, a8, a9] (.ref x :: st) σ Q := ru_loc (q := (_, _)) f_M_sale_143 rfl rfl rfl
theorem f_M_sale_144 : am_cd k_M_sale 144 = some ((some .int), .getfield 142, (11, 58, 975, 0, 3, .null)) := rfl
theorem s_M_sale_144 {ls : am_L} {st : List Value} {σ : am_H} {Q : Option Value → am_H → Prop} {a : Nat} : ax k_M_sale 144 ls (.ref a :: st) σ Q = ax_f (am_fld σ a 11 58) (fun v => ax k_M_sale 147 ls (v :: st) σ Q) := ru_getf f_M_sale_144 rfl
theorem f_M_sale_147 : am_cd k_M_sale 147 = some ((some .int), .iload_n 3, (0, 0, 0, 0, 0, .null)) := rfl
theorem s_M_sale_147 {a0 a1 a2 a4 a5 a6 a7 a8 a9 : Option Value} {st : List Value} {σ : am_H} {Q : Option Value → am_H → Prop} {x : Int32} : ax k_M_sale 147 [a0, a1, a2, some (.int x), a4, a5, a6, a7, a8, a9] st σ Q = ax k_M_sale 148 [a0, a1, a2, some (.int x), a4, a5, a6, a7, a8, a9] (.int x :: st) σ Q := ru_loc (q := (_, _)) f_M_sale_147 rfl rfl rfl
theorem f_M_sale_148 : am_cd k_M_sale 148 = some ((some .int), .iaload, (0, 0, 0, 0, 0, .null)) := rfl
theorem s_M_sale_148 {ls : am_L} {st : List Value} {σ : am_H} {Q : Option Value → am_H → Prop} {a : Nat} {j : Int32} : ax k_M_sale 148 ls (.int j :: .ref a :: st) σ Q = ax_f (am_j σ a) (fun q => q.1 = 0 ∧ am_ix j q.2.1 ∧ ax k_M_sale 149 ls (.int (q.2.2 j.toNatClampNeg) :: st) σ Q) := rv_iald f_M_sale_148 rfl
theorem f_M_sale_149 : am_cd k_M_sale 149 = some ((some .int), .iload 4, (0, 0, 0, 0, 0, .null)) := rfl
theorem s_M_sale_149 {a0 a1 a2 a3 a5 a6 a7 a8 a9 : Option Value} {st : List Value} {σ : am_H} {Q : Option Value → am_H → Prop} {x : Int32} : ax k_M_sale 149 [a0, a1, a2, a3, some (.int x), a5, a6, a7, a8, a9] st σ Q = ax k_M_sale 151 [a0, a1, a2, a3, some (.int x), a5, a6, a7, a8, a9] (.int x :: st) σ Q := ru_loc (q := (_, _)) f_M_sale_149 rfl rfl rfl
theorem f_M_sale_151 : am_cd k_M_sale 151 = some ((some .int), .imul, (0, 0, 0, 0, 0, .null)) := rfl
theorem s_M_sale_151 {ls : am_L} {st : List Value} {σ : am_H} {Q : Option Value → am_H → Prop} {x y : Int32} : ax k_M_sale 151 ls (.int y :: .int x :: st) σ Q = ax k_M_sale 152 ls (.int (x * y) :: st) σ Q := ru_pure f_M_sale_151 rfl rfl
theorem f_M_sale_152 : am_cd k_M_sale 152 = some ((some .int), .iload 6, (0, 0, 0, 0, 0, .null)) := rfl
theorem s_M_sale_152 {a0 a1 a2 a3 a4 a5 a7 a8 a9 : Option Value} {st : List Value} {σ : am_H} {Q : Option Value → am_H → Prop} {x : Int32} : ax k_M_sale 152 [a0, a1, a2, a3, a4, a5, some (.int x), a7, a8, a9] st σ Q = ax k_M_sale 154 [a0, a1, a2, a3, a4, a5, some (.int x), a7, a8, a9] (.int x :: st) σ Q := ru_loc (q := (_, _)) f_M_sale_152 rfl rfl rfl
theorem f_M_sale_154 : am_cd k_M_sale 154 = some ((some .int), .ifCond .ge 7, (161, 0, 0, 0, 0, .null)) := rfl
theorem s_M_sale_154 {ls : am_L} {st : List Value} {σ : am_H} {Q : Option Value → am_H → Prop} {x : Int32} : ax k_M_sale 154 ls (.int x :: st) σ Q = (if x < 0 then ax k_M_sale 157 ls st σ Q else ax k_M_sale 161 ls st σ Q) := (ru_if f_M_sale_154 rfl).trans (ru_i_ge _ _ _ _)
theorem f_M_sale_157 : am_cd k_M_sale 157 = some ((some .int), .iconst 1, (0, 0, 0, 0, 0, .null)) := rfl
theorem s_M_sale_157 {ls : am_L} {st : List Value} {σ : am_H} {Q : Option Value → am_H → Prop} : ax k_M_sale 157 ls st σ Q = ax k_M_sale 158 ls (.int 1 :: st) σ Q := ru_iconst f_M_sale_157 (by decide +kernel) rfl
theorem f_M_sale_158 : am_cd k_M_sale 158 = some ((some .int), .goto 4, (162, 0, 0, 0, 0, .null)) := rfl
theorem s_M_sale_158 {ls : am_L} {st : List Value} {σ : am_H} {Q : Option Value → am_H → Prop} : ax k_M_sale 158 ls st σ Q = ax k_M_sale 162 ls st σ Q := ru_goto f_M_sale_158
theorem f_M_sale_161 : am_cd k_M_sale 161 = some ((some .int), .iconst 2, (0, 0, 0, 0, 0, .null)) := rfl
theorem s_M_sale_161 {ls : am_L} {st : List Value} {σ : am_H} {Q : Option Value → am_H → Prop} : ax k_M_sale 161 ls st σ Q = ax k_M_sale 162 ls (.int 2 :: st) σ Q := ru_iconst f_M_sale_161 (by decide +kernel) rfl
theorem f_M_sale_162 : am_cd k_M_sale 162 = some ((some .int), .imul, (0, 0, 0, 0, 0, .null)) := rfl
theorem s_M_sale_162 {ls : am_L} {st : List Value} {σ : am_H} {Q : Option Value → am_H → Prop} {x y : Int32} : ax k_M_sale 162 ls (.int y :: .int x :: st) σ Q = ax k_M_sale 163 ls (.int (x * y) :: st) σ Q := ru_pure f_M_sale_162 rfl rfl
theorem f_M_sale_163 : am_cd k_M_sale 163 = some ((some .int), .iastore, (0, 0, 0, 0, 0, .null)) := rfl
theorem s_M_sale_163 {ls : am_L} {st : List Value} {σ : am_H} {Q : Option Value → am_H → Prop} {a : Nat} {j x : Int32} : ax k_M_sale 163 ls (.int x :: .int j :: .ref a :: st) σ Q = ax_f (am_j σ a) (fun q => q.1 = 0 ∧ am_ix j q.2.1 ∧ a < am_top ∧ ax k_M_sale 164 ls st (am_set σ a (am_ia 0 q.2.1 (upd q.2.2 j.toNatClampNeg x))) Q) := rv_iast f_M_sale_163 rfl
theorem f_M_sale_164 : am_cd k_M_sale 164 = some ((some .int), .aload_n 0, (0, 0, 0, 0, 0, .null)) := rfl
theorem s_M_sale_164 {a1 a2 a3 a4 a5 a6 a7 a8 a9 : Option Value} {st : List Value} {σ : am_H} {Q : Option Value → am_H → Prop} {x : Nat} : ax k_M_sale 164 [some (.ref x), a1, a2, a3, a4, a5, a6, a7, a8, a9] st σ Q = ax k_M_sale 165 [some (.ref x), a1, a2, a3, a4, a5, a6, a7, a8, a9] (.ref x :: st) σ Q := ru_loc (q := (_, _)) f_M_sale_164 rfl rfl rfl
theorem f_M_sale_165 : am_cd k_M_sale 165 = some ((some .int), .getfield 124, (11, 52, 969, 0, 3, .null)) := rfl
theorem s_M_sale_165 {ls : am_L} {st : List Value} {σ : am_H} {Q : Option Value → am_H → Prop} {a : Nat} : ax k_M_sale 165 ls (.ref a :: st) σ Q = ax_f (am_fld σ a 11 52) (fun v => ax k_M_sale 168 ls (v :: st) σ Q) := ru_getf f_M_sale_165 rfl
theorem f_M_sale_168 : am_cd k_M_sale 168 = some ((some .int), .iload 8, (0, 0, 0, 0, 0, .null)) := rfl
theorem s_M_sale_168 {a0 a1 a2 a3 a4 a5 a6 a7 a9 : Option Value} {st : List Value} {σ : am_H} {Q : Option Value → am_H → Prop} {x : Int32} : ax k_M_sale 168 [a0, a1, a2, a3, a4, a5, a6, a7, some (.int x), a9] st σ Q = ax k_M_sale 170 [a0, a1, a2, a3, a4, a5, a6, a7, some (.int x), a9] (.int x :: st) σ Q := ru_loc (q := (_, _)) f_M_sale_168 rfl rfl rfl
theorem f_M_sale_170 : am_cd k_M_sale 170 = some ((some .int), .iaload, (0, 0, 0, 0, 0, .null)) := rfl
theorem s_M_sale_170 {ls : am_L} {st : List Value} {σ : am_H} {Q : Option Value → am_H → Prop} {a : Nat} {j : Int32} : ax k_M_sale 170 ls (.int j :: .ref a :: st) σ Q = ax_f (am_j σ a) (fun q => q.1 = 0 ∧ am_ix j q.2.1 ∧ ax k_M_sale 171 ls (.int (q.2.2 j.toNatClampNeg) :: st) σ Q) := rv_iald f_M_sale_170 rfl
theorem f_M_sale_171 : am_cd k_M_sale 171 = some ((some .int), .i2l, (0, 0, 0, 0, 0, .null)) := rfl
theorem s_M_sale_171 {ls : am_L} {st : List Value} {σ : am_H} {Q : Option Value → am_H → Prop} {x : Int32} : ax k_M_sale 171 ls (.int x :: st) σ Q = ax k_M_sale 172 ls (.long x.toInt64 :: st) σ Q := ru_pure f_M_sale_171 rfl rfl
theorem f_M_sale_172 : am_cd k_M_sale 172 = some ((some .int), .aload_n 0, (0, 0, 0, 0, 0, .null)) := rfl
theorem s_M_sale_172 {a1 a2 a3 a4 a5 a6 a7 a8 a9 : Option Value} {st : List Value} {σ : am_H} {Q : Option Value → am_H → Prop} {x : Nat} : ax k_M_sale 172 [some (.ref x), a1, a2, a3, a4, a5, a6, a7, a8, a9] st σ Q = ax k_M_sale 173 [some (.ref x), a1, a2, a3, a4, a5, a6, a7, a8, a9] (.ref x :: st) σ Q := ru_loc (q := (_, _)) f_M_sale_172 rfl rfl rfl
theorem f_M_sale_173 : am_cd k_M_sale 173 = some ((some .int), .getfield 145, (11, 59, 976, 0, 0, .null)) := rfl
theorem s_M_sale_173 {ls : am_L} {st : List Value} {σ : am_H} {Q : Option Value → am_H → Prop} {a : Nat} : ax k_M_sale 173 ls (.ref a :: st) σ Q = ax_f (am_fld σ a 11 59) (fun v => ax k_M_sale 176 ls (v :: st) σ Q) := ru_getf f_M_sale_173 rfl
theorem f_M_sale_176 : am_cd k_M_sale 176 = some ((some .int), .i2l, (0, 0, 0, 0, 0, .null)) := rfl
theorem s_M_sale_176 {ls : am_L} {st : List Value} {σ : am_H} {Q : Option Value → am_H → Prop} {x : Int32} : ax k_M_sale 176 ls (.int x :: st) σ Q = ax k_M_sale 177 ls (.long x.toInt64 :: st) σ Q := ru_pure f_M_sale_176 rfl rfl
theorem f_M_sale_177 : am_cd k_M_sale 177 = some ((some .int), .lmul, (0, 0, 0, 0, 0, .null)) := rfl
theorem s_M_sale_177 {ls : am_L} {st : List Value} {σ : am_H} {Q : Option Value → am_H → Prop} {x y : Int64} : ax k_M_sale 177 ls (.long y :: .long x :: st) σ Q = ax k_M_sale 178 ls (.long (x * y) :: st) σ Q := ru_pure f_M_sale_177 rfl rfl
theorem f_M_sale_178 : am_cd k_M_sale 178 = some ((some .int), .ldc2_w 307, (0, 0, 1320, 0, 0, .long (100))) := rfl
theorem s_M_sale_178 {ls : am_L} {st : List Value} {σ : am_H} {Q : Option Value → am_H → Prop} : ax k_M_sale 178 ls st σ Q = ax k_M_sale 181 ls (.long (100) :: st) σ Q := ru_rd f_M_sale_178 rfl rfl rfl rfl rfl
theorem f_M_sale_181 : am_cd k_M_sale 181 = some ((some .int), .ldiv, (0, 0, 0, 0, 0, .null)) := rfl
theorem s_M_sale_181 {ls : am_L} {st : List Value} {σ : am_H} {Q : Option Value → am_H → Prop} {x y : Int64} : ax k_M_sale 181 ls (.long y :: .long x :: st) σ Q = (¬ y = 0 ∧ ax k_M_sale 182 ls (.long (x / y) :: st) σ Q) := ru_ldiv f_M_sale_181 rfl
theorem f_M_sale_182 : am_cd k_M_sale 182 = some ((some .int), .l2i, (0, 0, 0, 0, 0, .null)) := rfl
theorem s_M_sale_182 {ls : am_L} {st : List Value} {σ : am_H} {Q : Option Value → am_H → Prop} {x : Int64} : ax k_M_sale 182 ls (.long x :: st) σ Q = ax k_M_sale 183 ls (.int x.toInt32 :: st) σ Q := ru_pure f_M_sale_182 rfl rfl
theorem f_M_sale_183 : am_cd k_M_sale 183 = some ((some .int), .istore 9, (0, 0, 0, 0, 0, .null)) := rfl
theorem s_M_sale_183 {a0 a1 a2 a3 a4 a5 a6 a7 a8 a9 : Option Value} {st : List Value} {σ : am_H} {Q : Option Value → am_H → Prop} {x : Int32} (hc : am_c2 a8 = false) : ax k_M_sale 183 [a0, a1, a2, a3, a4, a5, a6, a7, a8, a9] (.int x :: st) σ Q = ax k_M_sale 185 [a0, a1, a2, a3, a4, a5, a6, a7, a8, some (.int x)] st σ Q := ru_istore f_M_sale_183 (Nat.le_of_ble_eq_true rfl) (ru_st1 (Nat.le_of_ble_eq_true rfl) (am_clr_c2 hc rfl) rfl) rfl
theorem f_M_sale_185 : am_cd k_M_sale 185 = some ((some .int), .aload_n 0, (0, 0, 0, 0, 0, .null)) := rfl
theorem s_M_sale_185 {a1 a2 a3 a4 a5 a6 a7 a8 a9 : Option Value} {st : List Value} {σ : am_H} {Q : Option Value → am_H → Prop} {x : Nat} : ax k_M_sale 185 [some (.ref x), a1, a2, a3, a4, a5, a6, a7, a8, a9] st σ Q = ax k_M_sale 186 [some (.ref x), a1, a2, a3, a4, a5, a6, a7, a8, a9] (.ref x :: st) σ Q := ru_loc (q := (_, _)) f_M_sale_185 rfl rfl rfl
theorem f_M_sale_186 : am_cd k_M_sale 186 = some ((some .int), .getfield 133, (11, 55, 972, 0, 3, .null)) := rfl
theorem s_M_sale_186 {ls : am_L} {st : List Value} {σ : am_H} {Q : Option Value → am_H → Prop} {a : Nat} : ax k_M_sale 186 ls (.ref a :: st) σ Q = ax_f (am_fld σ a 11 55) (fun v => ax k_M_sale 189 ls (v :: st) σ Q) := ru_getf f_M_sale_186 rfl
theorem f_M_sale_189 : am_cd k_M_sale 189 = some ((some .int), .iload 8, (0, 0, 0, 0, 0, .null)) := rfl
theorem s_M_sale_189 {a0 a1 a2 a3 a4 a5 a6 a7 a9 : Option Value} {st : List Value} {σ : am_H} {Q : Option Value → am_H → Prop} {x : Int32} : ax k_M_sale 189 [a0, a1, a2, a3, a4, a5, a6, a7, some (.int x), a9] st σ Q = ax k_M_sale 191 [a0, a1, a2, a3, a4, a5, a6, a7, some (.int x), a9] (.int x :: st) σ Q := ru_loc (q := (_, _)) f_M_sale_189 rfl rfl rfl
theorem f_M_sale_191 : am_cd k_M_sale 191 = some ((some .int), .aload_n 0, (0, 0, 0, 0, 0, .null)) := rfl
theorem s_M_sale_191 {a1 a2 a3 a4 a5 a6 a7 a8 a9 : Option Value} {st : List Value} {σ : am_H} {Q : Option Value → am_H → Prop} {x : Nat} : ax k_M_sale 191 [some (.ref x), a1, a2, a3, a4, a5, a6, a7, a8, a9] st σ Q = ax k_M_sale 192 [some (.ref x), a1, a2, a3, a4, a5, a6, a7, a8, a9] (.ref x :: st) σ Q := ru_loc (q := (_, _)) f_M_sale_191 rfl rfl rfl
theorem f_M_sale_192 : am_cd k_M_sale 192 = some ((some .int), .getfield 19, (11, 8, 925, 0, 3, .null)) := rfl
theorem s_M_sale_192 {ls : am_L} {st : List Value} {σ : am_H} {Q : Option Value → am_H → Prop} {a : Nat} : ax k_M_sale 192 ls (.ref a :: st) σ Q = ax_f (am_fld σ a 11 8) (fun v => ax k_M_sale 195 ls (v :: st) σ Q) := ru_getf f_M_sale_192 rfl
theorem f_M_sale_195 : am_cd k_M_sale 195 = some ((some .int), .aload_n 0, (0, 0, 0, 0, 0, .null)) := rfl
theorem s_M_sale_195 {a1 a2 a3 a4 a5 a6 a7 a8 a9 : Option Value} {st : List Value} {σ : am_H} {Q : Option Value → am_H → Prop} {x : Nat} : ax k_M_sale 195 [some (.ref x), a1, a2, a3, a4, a5, a6, a7, a8, a9] st σ Q = ax k_M_sale 196 [some (.ref x), a1, a2, a3, a4, a5, a6, a7, a8, a9] (.ref x :: st) σ Q := ru_loc (q := (_, _)) f_M_sale_195 rfl rfl rfl
theorem f_M_sale_196 : am_cd k_M_sale 196 = some ((some .int), .iload_n 1, (0, 0, 0, 0, 0, .null)) := rfl
theorem s_M_sale_196 {a0 a2 a3 a4 a5 a6 a7 a8 a9 : Option Value} {st : List Value} {σ : am_H} {Q : Option Value → am_H → Prop} {x : Int32} : ax k_M_sale 196 [a0, some (.int x), a2, a3, a4, a5, a6, a7, a8, a9] st σ Q = ax k_M_sale 197 [a0, some (.int x), a2, a3, a4, a5, a6, a7, a8, a9] (.int x :: st) σ Q := ru_loc (q := (_, _)) f_M_sale_196 rfl rfl rfl
theorem f_M_sale_197 : am_cd k_M_sale 197 = some ((some .int), .invokevirtual 215, (136, 1, 1199, 0, 11, .null)) := rfl
theorem s_M_sale_197 {ls : am_L} {st : List Value} {σ : am_H} {Q : Option Value → am_H → Prop} {p0 : Int32} {b : Nat} (hi : am_is σ b 11) (h8 : am_s8 st) : ax k_M_sale 197 ls (.int p0 :: .ref b :: st) σ Q = ax k_M_firstOf 0 [some (.ref b), some (.int p0), none, none] [] σ (ax_k k_M_sale 200 ls st Q) := ru_vir (M' := rk_M_firstOf) f_M_sale_197 rfl rfl rfl rfl hi h8 rfl rfl rfl rfl rfl
theorem f_M_sale_200 : am_cd k_M_sale 200 = some ((some .int), .iaload, (0, 0, 0, 0, 0, .null)) := rfl
theorem s_M_sale_200 {ls : am_L} {st : List Value} {σ : am_H} {Q : Option Value → am_H → Prop} {a : Nat} {j : Int32} : ax k_M_sale 200 ls (.int j :: .ref a :: st) σ Q = ax_f (am_j σ a) (fun q => q.1 = 0 ∧ am_ix j q.2.1 ∧ ax k_M_sale 201 ls (.int (q.2.2 j.toNatClampNeg) :: st) σ Q) := rv_iald f_M_sale_200 rfl
theorem f_M_sale_201 : am_cd k_M_sale 201 = some ((some .int), .iastore, (0, 0, 0, 0, 0, .null)) := rfl
theorem s_M_sale_201 {ls : am_L} {st : List Value} {σ : am_H} {Q : Option Value → am_H → Prop} {a : Nat} {j x : Int32} : ax k_M_sale 201 ls (.int x :: .int j :: .ref a :: st) σ Q = ax_f (am_j σ a) (fun q => q.1 = 0 ∧ am_ix j q.2.1 ∧ a < am_top ∧ ax k_M_sale 202 ls st (am_set σ a (am_ia 0 q.2.1 (upd q.2.2 j.toNatClampNeg x))) Q) := rv_iast f_M_sale_201 rfl
theorem f_M_sale_202 : am_cd k_M_sale 202 = some ((some .int), .aload_n 0, (0, 0, 0, 0, 0, .null)) := rfl
theorem s_M_sale_202 {a1 a2 a3 a4 a5 a6 a7 a8 a9 : Option Value} {st : List Value} {σ : am_H} {Q : Option Value → am_H → Prop} {x : Nat} : ax k_M_sale 202 [some (.ref x), a1, a2, a3, a4, a5, a6, a7, a8, a9] st σ Q = ax k_M_sale 203 [some (.ref x), a1, a2, a3, a4, a5, a6, a7, a8, a9] (.ref x :: st) σ Q := ru_loc (q := (_, _)) f_M_sale_202 rfl rfl rfl
theorem f_M_sale_203 : am_cd k_M_sale 203 = some ((some .int), .getfield 130, (11, 54, 971, 0, 3, .null)) := rfl
theorem s_M_sale_203 {ls : am_L} {st : List Value} {σ : am_H} {Q : Option Value → am_H → Prop} {a : Nat} : ax k_M_sale 203 ls (.ref a :: st) σ Q = ax_f (am_fld σ a 11 54) (fun v => ax k_M_sale 206 ls (v :: st) σ Q) := ru_getf f_M_sale_203 rfl
theorem f_M_sale_206 : am_cd k_M_sale 206 = some ((some .int), .iload 8, (0, 0, 0, 0, 0, .null)) := rfl
theorem s_M_sale_206 {a0 a1 a2 a3 a4 a5 a6 a7 a9 : Option Value} {st : List Value} {σ : am_H} {Q : Option Value → am_H → Prop} {x : Int32} : ax k_M_sale 206 [a0, a1, a2, a3, a4, a5, a6, a7, some (.int x), a9] st σ Q = ax k_M_sale 208 [a0, a1, a2, a3, a4, a5, a6, a7, some (.int x), a9] (.int x :: st) σ Q := ru_loc (q := (_, _)) f_M_sale_206 rfl rfl rfl
theorem f_M_sale_208 : am_cd k_M_sale 208 = some ((some .int), .aload_n 0, (0, 0, 0, 0, 0, .null)) := rfl
theorem s_M_sale_208 {a1 a2 a3 a4 a5 a6 a7 a8 a9 : Option Value} {st : List Value} {σ : am_H} {Q : Option Value → am_H → Prop} {x : Nat} : ax k_M_sale 208 [some (.ref x), a1, a2, a3, a4, a5, a6, a7, a8, a9] st σ Q = ax k_M_sale 209 [some (.ref x), a1, a2, a3, a4, a5, a6, a7, a8, a9] (.ref x :: st) σ Q := ru_loc (q := (_, _)) f_M_sale_208 rfl rfl rfl
theorem f_M_sale_209 : am_cd k_M_sale 209 = some ((some .int), .getfield 133, (11, 55, 972, 0, 3, .null)) := rfl
theorem s_M_sale_209 {ls : am_L} {st : List Value} {σ : am_H} {Q : Option Value → am_H → Prop} {a : Nat} : ax k_M_sale 209 ls (.ref a :: st) σ Q = ax_f (am_fld σ a 11 55) (fun v => ax k_M_sale 212 ls (v :: st) σ Q) := ru_getf f_M_sale_209 rfl
theorem f_M_sale_212 : am_cd k_M_sale 212 = some ((some .int), .iload 8, (0, 0, 0, 0, 0, .null)) := rfl
theorem s_M_sale_212 {a0 a1 a2 a3 a4 a5 a6 a7 a9 : Option Value} {st : List Value} {σ : am_H} {Q : Option Value → am_H → Prop} {x : Int32} : ax k_M_sale 212 [a0, a1, a2, a3, a4, a5, a6, a7, some (.int x), a9] st σ Q = ax k_M_sale 214 [a0, a1, a2, a3, a4, a5, a6, a7, some (.int x), a9] (.int x :: st) σ Q := ru_loc (q := (_, _)) f_M_sale_212 rfl rfl rfl
theorem f_M_sale_214 : am_cd k_M_sale 214 = some ((some .int), .iaload, (0, 0, 0, 0, 0, .null)) := rfl
theorem s_M_sale_214 {ls : am_L} {st : List Value} {σ : am_H} {Q : Option Value → am_H → Prop} {a : Nat} {j : Int32} : ax k_M_sale 214 ls (.int j :: .ref a :: st) σ Q = ax_f (am_j σ a) (fun q => q.1 = 0 ∧ am_ix j q.2.1 ∧ ax k_M_sale 215 ls (.int (q.2.2 j.toNatClampNeg) :: st) σ Q) := rv_iald f_M_sale_214 rfl
theorem f_M_sale_215 : am_cd k_M_sale 215 = some ((some .int), .aload_n 0, (0, 0, 0, 0, 0, .null)) := rfl
theorem s_M_sale_215 {a1 a2 a3 a4 a5 a6 a7 a8 a9 : Option Value} {st : List Value} {σ : am_H} {Q : Option Value → am_H → Prop} {x : Nat} : ax k_M_sale 215 [some (.ref x), a1, a2, a3, a4, a5, a6, a7, a8, a9] st σ Q = ax k_M_sale 216 [some (.ref x), a1, a2, a3, a4, a5, a6, a7, a8, a9] (.ref x :: st) σ Q := ru_loc (q := (_, _)) f_M_sale_215 rfl rfl rfl
theorem f_M_sale_216 : am_cd k_M_sale 216 = some ((some .int), .getfield 19, (11, 8, 925, 0, 3, .null)) := rfl
theorem s_M_sale_216 {ls : am_L} {st : List Value} {σ : am_H} {Q : Option Value → am_H → Prop} {a : Nat} : ax k_M_sale 216 ls (.ref a :: st) σ Q = ax_f (am_fld σ a 11 8) (fun v => ax k_M_sale 219 ls (v :: st) σ Q) := ru_getf f_M_sale_216 rfl
theorem f_M_sale_219 : am_cd k_M_sale 219 = some ((some .int), .iload_n 1, (0, 0, 0, 0, 0, .null)) := rfl
theorem s_M_sale_219 {a0 a2 a3 a4 a5 a6 a7 a8 a9 : Option Value} {st : List Value} {σ : am_H} {Q : Option Value → am_H → Prop} {x : Int32} : ax k_M_sale 219 [a0, some (.int x), a2, a3, a4, a5, a6, a7, a8, a9] st σ Q = ax k_M_sale 220 [a0, some (.int x), a2, a3, a4, a5, a6, a7, a8, a9] (.int x :: st) σ Q := ru_loc (q := (_, _)) f_M_sale_219 rfl rfl rfl
theorem f_M_sale_220 : am_cd k_M_sale 220 = some ((some .int), .iaload, (0, 0, 0, 0, 0, .null)) := rfl
theorem s_M_sale_220 {ls : am_L} {st : List Value} {σ : am_H} {Q : Option Value → am_H → Prop} {a : Nat} {j : Int32} : ax k_M_sale 220 ls (.int j :: .ref a :: st) σ Q = ax_f (am_j σ a) (fun q => q.1 = 0 ∧ am_ix j q.2.1 ∧ ax k_M_sale 221 ls (.int (q.2.2 j.toNatClampNeg) :: st) σ Q) := rv_iald f_M_sale_220 rfl
theorem f_M_sale_221 : am_cd k_M_sale 221 = some ((some .int), .if_icmp .ne 7, (228, 0, 0, 0, 0, .null)) := rfl
theorem s_M_sale_221 {ls : am_L} {st : List Value} {σ : am_H} {Q : Option Value → am_H → Prop} {x y : Int32} : ax k_M_sale 221 ls (.int y :: .int x :: st) σ Q = (if x = y then ax k_M_sale 224 ls st σ Q else ax k_M_sale 228 ls st σ Q) := (ru_icmp f_M_sale_221 rfl).trans (ru_i_ne _ _ _ _)
theorem f_M_sale_224 : am_cd k_M_sale 224 = some ((some .int), .iconst 0, (0, 0, 0, 0, 0, .null)) := rfl
theorem s_M_sale_224 {ls : am_L} {st : List Value} {σ : am_H} {Q : Option Value → am_H → Prop} : ax k_M_sale 224 ls st σ Q = ax k_M_sale 225 ls (.int 0 :: st) σ Q := ru_iconst f_M_sale_224 (by decide +kernel) rfl
theorem f_M_sale_225 : am_cd k_M_sale 225 = some ((some .int), .goto 8, (233, 0, 0, 0, 0, .null)) := rfl
theorem s_M_sale_225 {ls : am_L} {st : List Value} {σ : am_H} {Q : Option Value → am_H → Prop} : ax k_M_sale 225 ls st σ Q = ax k_M_sale 233 ls st σ Q := ru_goto f_M_sale_225
theorem f_M_sale_228 : am_cd k_M_sale 228 = some ((some .int), .iload 9, (0, 0, 0, 0, 0, .null)) := rfl
theorem s_M_sale_228 {a0 a1 a2 a3 a4 a5 a6 a7 a8 : Option Value} {st : List Value} {σ : am_H} {Q : Option Value → am_H → Prop} {x : Int32} : ax k_M_sale 228 [a0, a1, a2, a3, a4, a5, a6, a7, a8, some (.int x)] st σ Q = ax k_M_sale 230 [a0, a1, a2, a3, a4, a5, a6, a7, a8, some (.int x)] (.int x :: st) σ Q := ru_loc (q := (_, _)) f_M_sale_228 rfl rfl rfl
theorem f_M_sale_230 : am_cd k_M_sale 230 = some ((some .int), .bipush 10, (0, 0, 0, 0, 0, .null)) := rfl
theorem s_M_sale_230 {ls : am_L} {st : List Value} {σ : am_H} {Q : Option Value → am_H → Prop} : ax k_M_sale 230 ls st σ Q = ax k_M_sale 232 ls (.int 10 :: st) σ Q := ru_bipush f_M_sale_230 (by decide +kernel) rfl
theorem f_M_sale_232 : am_cd k_M_sale 232 = some ((some .int), .idiv, (0, 0, 0, 0, 0, .null)) := rfl
theorem s_M_sale_232 {ls : am_L} {st : List Value} {σ : am_H} {Q : Option Value → am_H → Prop} {x y : Int32} : ax k_M_sale 232 ls (.int y :: .int x :: st) σ Q = (¬ y = 0 ∧ ax k_M_sale 233 ls (.int (x / y) :: st) σ Q) := ru_div f_M_sale_232 rfl
theorem f_M_sale_233 : am_cd k_M_sale 233 = some ((some .int), .iastore, (0, 0, 0, 0, 0, .null)) := rfl
theorem s_M_sale_233 {ls : am_L} {st : List Value} {σ : am_H} {Q : Option Value → am_H → Prop} {a : Nat} {j x : Int32} : ax k_M_sale 233 ls (.int x :: .int j :: .ref a :: st) σ Q = ax_f (am_j σ a) (fun q => q.1 = 0 ∧ am_ix j q.2.1 ∧ a < am_top ∧ ax k_M_sale 234 ls st (am_set σ a (am_ia 0 q.2.1 (upd q.2.2 j.toNatClampNeg x))) Q) := rv_iast f_M_sale_233 rfl
theorem f_M_sale_234 : am_cd k_M_sale 234 = some ((some .int), .aload_n 0, (0, 0, 0, 0, 0, .null)) := rfl
theorem s_M_sale_234 {a1 a2 a3 a4 a5 a6 a7 a8 a9 : Option Value} {st : List Value} {σ : am_H} {Q : Option Value → am_H → Prop} {x : Nat} : ax k_M_sale 234 [some (.ref x), a1, a2, a3, a4, a5, a6, a7, a8, a9] st σ Q = ax k_M_sale 235 [some (.ref x), a1, a2, a3, a4, a5, a6, a7, a8, a9] (.ref x :: st) σ Q := ru_loc (q := (_, _)) f_M_sale_234 rfl rfl rfl
theorem f_M_sale_235 : am_cd k_M_sale 235 = some ((some .int), .getfield 127, (11, 53, 970, 0, 3, .null)) := rfl
theorem s_M_sale_235 {ls : am_L} {st : List Value} {σ : am_H} {Q : Option Value → am_H → Prop} {a : Nat} : ax k_M_sale 235 ls (.ref a :: st) σ Q = ax_f (am_fld σ a 11 53) (fun v => ax k_M_sale 238 ls (v :: st) σ Q) := ru_getf f_M_sale_235 rfl
theorem f_M_sale_238 : am_cd k_M_sale 238 = some ((some .int), .iload 8, (0, 0, 0, 0, 0, .null)) := rfl
theorem s_M_sale_238 {a0 a1 a2 a3 a4 a5 a6 a7 a9 : Option Value} {st : List Value} {σ : am_H} {Q : Option Value → am_H → Prop} {x : Int32} : ax k_M_sale 238 [a0, a1, a2, a3, a4, a5, a6, a7, some (.int x), a9] st σ Q = ax k_M_sale 240 [a0, a1, a2, a3, a4, a5, a6, a7, some (.int x), a9] (.int x :: st) σ Q := ru_loc (q := (_, _)) f_M_sale_238 rfl rfl rfl
theorem f_M_sale_240 : am_cd k_M_sale 240 = some ((some .int), .iload 9, (0, 0, 0, 0, 0, .null)) := rfl
theorem s_M_sale_240 {a0 a1 a2 a3 a4 a5 a6 a7 a8 : Option Value} {st : List Value} {σ : am_H} {Q : Option Value → am_H → Prop} {x : Int32} : ax k_M_sale 240 [a0, a1, a2, a3, a4, a5, a6, a7, a8, some (.int x)] st σ Q = ax k_M_sale 242 [a0, a1, a2, a3, a4, a5, a6, a7, a8, some (.int x)] (.int x :: st) σ Q := ru_loc (q := (_, _)) f_M_sale_240 rfl rfl rfl
theorem f_M_sale_242 : am_cd k_M_sale 242 = some ((some .int), .aload_n 0, (0, 0, 0, 0, 0, .null)) := rfl
theorem s_M_sale_242 {a1 a2 a3 a4 a5 a6 a7 a8 a9 : Option Value} {st : List Value} {σ : am_H} {Q : Option Value → am_H → Prop} {x : Nat} : ax k_M_sale 242 [some (.ref x), a1, a2, a3, a4, a5, a6, a7, a8, a9] st σ Q = ax k_M_sale 243 [some (.ref x), a1, a2, a3, a4, a5, a6, a7, a8, a9] (.ref x :: st) σ Q := ru_loc (q := (_, _)) f_M_sale_242 rfl rfl rfl
theorem f_M_sale_243 : am_cd k_M_sale 243 = some ((some .int), .getfield 130, (11, 54, 971, 0, 3, .null)) := rfl
theorem s_M_sale_243 {ls : am_L} {st : List Value} {σ : am_H} {Q : Option Value → am_H → Prop} {a : Nat} : ax k_M_sale 243 ls (.ref a :: st) σ Q = ax_f (am_fld σ a 11 54) (fun v => ax k_M_sale 246 ls (v :: st) σ Q) := ru_getf f_M_sale_243 rfl
theorem f_M_sale_246 : am_cd k_M_sale 246 = some ((some .int), .iload 8, (0, 0, 0, 0, 0, .null)) := rfl
theorem s_M_sale_246 {a0 a1 a2 a3 a4 a5 a6 a7 a9 : Option Value} {st : List Value} {σ : am_H} {Q : Option Value → am_H → Prop} {x : Int32} : ax k_M_sale 246 [a0, a1, a2, a3, a4, a5, a6, a7, some (.int x), a9] st σ Q = ax k_M_sale 248 [a0, a1, a2, a3, a4, a5, a6, a7, some (.int x), a9] (.int x :: st) σ Q := ru_loc (q := (_, _)) f_M_sale_246 rfl rfl rfl
theorem f_M_sale_248 : am_cd k_M_sale 248 = some ((some .int), .iaload, (0, 0, 0, 0, 0, .null)) := rfl
theorem s_M_sale_248 {ls : am_L} {st : List Value} {σ : am_H} {Q : Option Value → am_H → Prop} {a : Nat} {j : Int32} : ax k_M_sale 248 ls (.int j :: .ref a :: st) σ Q = ax_f (am_j σ a) (fun q => q.1 = 0 ∧ am_ix j q.2.1 ∧ ax k_M_sale 249 ls (.int (q.2.2 j.toNatClampNeg) :: st) σ Q) := rv_iald f_M_sale_248 rfl
theorem f_M_sale_249 : am_cd k_M_sale 249 = some ((some .int), .isub, (0, 0, 0, 0, 0, .null)) := rfl
theorem s_M_sale_249 {ls : am_L} {st : List Value} {σ : am_H} {Q : Option Value → am_H → Prop} {x y : Int32} : ax k_M_sale 249 ls (.int y :: .int x :: st) σ Q = ax k_M_sale 250 ls (.int (x - y) :: st) σ Q := ru_pure f_M_sale_249 rfl rfl
theorem f_M_sale_250 : am_cd k_M_sale 250 = some ((some .int), .iastore, (0, 0, 0, 0, 0, .null)) := rfl
theorem s_M_sale_250 {ls : am_L} {st : List Value} {σ : am_H} {Q : Option Value → am_H → Prop} {a : Nat} {j x : Int32} : ax k_M_sale 250 ls (.int x :: .int j :: .ref a :: st) σ Q = ax_f (am_j σ a) (fun q => q.1 = 0 ∧ am_ix j q.2.1 ∧ a < am_top ∧ ax k_M_sale 251 ls st (am_set σ a (am_ia 0 q.2.1 (upd q.2.2 j.toNatClampNeg x))) Q) := rv_iast f_M_sale_250 rfl
theorem f_M_sale_251 : am_cd k_M_sale 251 = some ((some .int), .aload_n 0, (0, 0, 0, 0, 0, .null)) := rfl
theorem s_M_sale_251 {a1 a2 a3 a4 a5 a6 a7 a8 a9 : Option Value} {st : List Value} {σ : am_H} {Q : Option Value → am_H → Prop} {x : Nat} : ax k_M_sale 251 [some (.ref x), a1, a2, a3, a4, a5, a6, a7, a8, a9] st σ Q = ax k_M_sale 252 [some (.ref x), a1, a2, a3, a4, a5, a6, a7, a8, a9] (.ref x :: st) σ Q := ru_loc (q := (_, _)) f_M_sale_251 rfl rfl rfl
theorem f_M_sale_252 : am_cd k_M_sale 252 = some ((some .int), .getfield 136, (11, 56, 973, 0, 3, .null)) := rfl
theorem s_M_sale_252 {ls : am_L} {st : List Value} {σ : am_H} {Q : Option Value → am_H → Prop} {a : Nat} : ax k_M_sale 252 ls (.ref a :: st) σ Q = ax_f (am_fld σ a 11 56) (fun v => ax k_M_sale 255 ls (v :: st) σ Q) := ru_getf f_M_sale_252 rfl
theorem f_M_sale_255 : am_cd k_M_sale 255 = some ((some .int), .iload 8, (0, 0, 0, 0, 0, .null)) := rfl
theorem s_M_sale_255 {a0 a1 a2 a3 a4 a5 a6 a7 a9 : Option Value} {st : List Value} {σ : am_H} {Q : Option Value → am_H → Prop} {x : Int32} : ax k_M_sale 255 [a0, a1, a2, a3, a4, a5, a6, a7, some (.int x), a9] st σ Q = ax k_M_sale 257 [a0, a1, a2, a3, a4, a5, a6, a7, some (.int x), a9] (.int x :: st) σ Q := ru_loc (q := (_, _)) f_M_sale_255 rfl rfl rfl
theorem f_M_sale_257 : am_cd k_M_sale 257 = some ((some .int), .iconst 0, (0, 0, 0, 0, 0, .null)) := rfl
theorem s_M_sale_257 {ls : am_L} {st : List Value} {σ : am_H} {Q : Option Value → am_H → Prop} : ax k_M_sale 257 ls st σ Q = ax k_M_sale 258 ls (.int 0 :: st) σ Q := ru_iconst f_M_sale_257 (by decide +kernel) rfl
theorem f_M_sale_258 : am_cd k_M_sale 258 = some ((some .int), .bastore, (0, 0, 0, 0, 0, .null)) := rfl
theorem s_M_sale_258 {ls : am_L} {st : List Value} {σ : am_H} {Q : Option Value → am_H → Prop} {a : Nat} {j x : Int32} : ax k_M_sale 258 ls (.int x :: .int j :: .ref a :: st) σ Q = ax_f (am_j σ a) (fun q => q.1 = 1 ∧ am_ix j q.2.1 ∧ a < am_top ∧ (x = 0 ∨ x = 1) ∧ ax k_M_sale 259 ls st (am_set σ a (am_ia 1 q.2.1 (upd q.2.2 j.toNatClampNeg x))) Q) := rv_zast f_M_sale_258 rfl
theorem f_M_sale_259 : am_cd k_M_sale 259 = some ((some .int), .aload_n 0, (0, 0, 0, 0, 0, .null)) := rfl
theorem s_M_sale_259 {a1 a2 a3 a4 a5 a6 a7 a8 a9 : Option Value} {st : List Value} {σ : am_H} {Q : Option Value → am_H → Prop} {x : Nat} : ax k_M_sale 259 [some (.ref x), a1, a2, a3, a4, a5, a6, a7, a8, a9] st σ Q = ax k_M_sale 260 [some (.ref x), a1, a2, a3, a4, a5, a6, a7, a8, a9] (.ref x :: st) σ Q := ru_loc (q := (_, _)) f_M_sale_259 rfl rfl rfl
theorem f_M_sale_260 : am_cd k_M_sale 260 = some ((some .int), .getfield 139, (11, 57, 974, 0, 3, .null)) := rfl
theorem s_M_sale_260 {ls : am_L} {st : List Value} {σ : am_H} {Q : Option Value → am_H → Prop} {a : Nat} : ax k_M_sale 260 ls (.ref a :: st) σ Q = ax_f (am_fld σ a 11 57) (fun v => ax k_M_sale 263 ls (v :: st) σ Q) := ru_getf f_M_sale_260 rfl
theorem f_M_sale_263 : am_cd k_M_sale 263 = some ((some .int), .iload 8, (0, 0, 0, 0, 0, .null)) := rfl
theorem s_M_sale_263 {a0 a1 a2 a3 a4 a5 a6 a7 a9 : Option Value} {st : List Value} {σ : am_H} {Q : Option Value → am_H → Prop} {x : Int32} : ax k_M_sale 263 [a0, a1, a2, a3, a4, a5, a6, a7, some (.int x), a9] st σ Q = ax k_M_sale 265 [a0, a1, a2, a3, a4, a5, a6, a7, some (.int x), a9] (.int x :: st) σ Q := ru_loc (q := (_, _)) f_M_sale_263 rfl rfl rfl
theorem f_M_sale_265 : am_cd k_M_sale 265 = some ((some .int), .iconst (-1), (0, 0, 0, 0, 0, .null)) := rfl
theorem s_M_sale_265 {ls : am_L} {st : List Value} {σ : am_H} {Q : Option Value → am_H → Prop} : ax k_M_sale 265 ls st σ Q = ax k_M_sale 266 ls (.int (-1) :: st) σ Q := ru_iconst f_M_sale_265 (by decide +kernel) rfl
theorem f_M_sale_266 : am_cd k_M_sale 266 = some ((some .int), .iastore, (0, 0, 0, 0, 0, .null)) := rfl
theorem s_M_sale_266 {ls : am_L} {st : List Value} {σ : am_H} {Q : Option Value → am_H → Prop} {a : Nat} {j x : Int32} : ax k_M_sale 266 ls (.int x :: .int j :: .ref a :: st) σ Q = ax_f (am_j σ a) (fun q => q.1 = 0 ∧ am_ix j q.2.1 ∧ a < am_top ∧ ax k_M_sale 267 ls st (am_set σ a (am_ia 0 q.2.1 (upd q.2.2 j.toNatClampNeg x))) Q) := rv_iast f_M_sale_266 rfl
theorem f_M_sale_267 : am_cd k_M_sale 267 = some ((some .int), .aload_n 0, (0, 0, 0, 0, 0, .null)) := rfl
theorem s_M_sale_267 {a1 a2 a3 a4 a5 a6 a7 a8 a9 : Option Value} {st : List Value} {σ : am_H} {Q : Option Value → am_H → Prop} {x : Nat} : ax k_M_sale 267 [some (.ref x), a1, a2, a3, a4, a5, a6, a7, a8, a9] st σ Q = ax k_M_sale 268 [some (.ref x), a1, a2, a3, a4, a5, a6, a7, a8, a9] (.ref x :: st) σ Q := ru_loc (q := (_, _)) f_M_sale_267 rfl rfl rfl
theorem f_M_sale_268 : am_cd k_M_sale 268 = some ((some .int), .dup, (0, 0, 0, 0, 0, .null)) := rfl
theorem s_M_sale_268 {ls : am_L} {st : List Value} {σ : am_H} {Q : Option Value → am_H → Prop} {a : Nat} : ax k_M_sale 268 ls (.ref a :: st) σ Q = ax k_M_sale 269 ls (.ref a :: .ref a :: st) σ Q := ru_pure f_M_sale_268 rfl rfl
theorem f_M_sale_269 : am_cd k_M_sale 269 = some ((some .int), .getfield 293, (11, 45, 962, 0, 0, .null)) := rfl
theorem s_M_sale_269 {ls : am_L} {st : List Value} {σ : am_H} {Q : Option Value → am_H → Prop} {a : Nat} : ax k_M_sale 269 ls (.ref a :: st) σ Q = ax_f (am_fld σ a 11 45) (fun v => ax k_M_sale 272 ls (v :: st) σ Q) := ru_getf f_M_sale_269 rfl
theorem f_M_sale_272 : am_cd k_M_sale 272 = some ((some .int), .iconst 1, (0, 0, 0, 0, 0, .null)) := rfl
theorem s_M_sale_272 {ls : am_L} {st : List Value} {σ : am_H} {Q : Option Value → am_H → Prop} : ax k_M_sale 272 ls st σ Q = ax k_M_sale 273 ls (.int 1 :: st) σ Q := ru_iconst f_M_sale_272 (by decide +kernel) rfl
theorem f_M_sale_273 : am_cd k_M_sale 273 = some ((some .int), .iadd, (0, 0, 0, 0, 0, .null)) := rfl
theorem s_M_sale_273 {ls : am_L} {st : List Value} {σ : am_H} {Q : Option Value → am_H → Prop} {x y : Int32} : ax k_M_sale 273 ls (.int y :: .int x :: st) σ Q = ax k_M_sale 274 ls (.int (x + y) :: st) σ Q := ru_pure f_M_sale_273 rfl rfl
theorem f_M_sale_274 : am_cd k_M_sale 274 = some ((some .int), .putfield 293, (11, 45, 962, 0, 0, .null)) := rfl
theorem s_M_sale_274 {ls : am_L} {st : List Value} {σ : am_H} {Q : Option Value → am_H → Prop} {a : Nat} {v : Value} : ax k_M_sale 274 ls (v :: .ref a :: st) σ Q = ax_f (am_fld σ a 11 45) (fun _ => a < am_top ∧ am_okv 0 v = true ∧ ax k_M_sale 277 ls st (am_put σ a 45 v) Q) := ru_putf f_M_sale_274 rfl
theorem f_M_sale_277 : am_cd k_M_sale 277 = some ((some .int), .iload 8, (0, 0, 0, 0, 0, .null)) := rfl
theorem s_M_sale_277 {a0 a1 a2 a3 a4 a5 a6 a7 a9 : Option Value} {st : List Value} {σ : am_H} {Q : Option Value → am_H → Prop} {x : Int32} : ax k_M_sale 277 [a0, a1, a2, a3, a4, a5, a6, a7, some (.int x), a9] st σ Q = ax k_M_sale 279 [a0, a1, a2, a3, a4, a5, a6, a7, some (.int x), a9] (.int x :: st) σ Q := ru_loc (q := (_, _)) f_M_sale_277 rfl rfl rfl
theorem f_M_sale_279 : am_cd k_M_sale 279 = some ((some .int), .ireturn, (0, 0, 0, 0, 0, .null)) := rfl
theorem s_M_sale_279 {ls : am_L} {σ : am_H} {Q : Option Value → am_H → Prop} {v : Int32} : ax k_M_sale 279 ls [.int v] σ Q = Q (some (.int v)) σ := ru_iretI f_M_sale_279
theorem f_M_strike_0 : am_cd k_M_strike 0 = some ((some .boolean), .iload_n 1, (0, 0, 0, 0, 0, .null)) := rfl
theorem s_M_strike_0 {a0 : Option Value} {st : List Value} {σ : am_H} {Q : Option Value → am_H → Prop} {x : Int32} : ax k_M_strike 0 [a0, some (.int x)] st σ Q = ax k_M_strike 1 [a0, some (.int x)] (.int x :: st) σ Q := ru_loc (q := (_, _)) f_M_strike_0 rfl rfl rfl
theorem f_M_strike_1 : am_cd k_M_strike 1 = some ((some .boolean), .iconst 0, (0, 0, 0, 0, 0, .null)) := rfl
theorem s_M_strike_1 {ls : am_L} {st : List Value} {σ : am_H} {Q : Option Value → am_H → Prop} : ax k_M_strike 1 ls st σ Q = ax k_M_strike 2 ls (.int 0 :: st) σ Q := ru_iconst f_M_strike_1 (by decide +kernel) rfl
theorem f_M_strike_2 : am_cd k_M_strike 2 = some ((some .boolean), .aload_n 0, (0, 0, 0, 0, 0, .null)) := rfl
theorem s_M_strike_2 {a1 : Option Value} {st : List Value} {σ : am_H} {Q : Option Value → am_H → Prop} {x : Nat} : ax k_M_strike 2 [some (.ref x), a1] st σ Q = ax k_M_strike 3 [some (.ref x), a1] (.ref x :: st) σ Q := ru_loc (q := (_, _)) f_M_strike_2 rfl rfl rfl
theorem f_M_strike_3 : am_cd k_M_strike 3 = some ((some .boolean), .getfield 293, (11, 45, 962, 0, 0, .null)) := rfl
theorem s_M_strike_3 {ls : am_L} {st : List Value} {σ : am_H} {Q : Option Value → am_H → Prop} {a : Nat} : ax k_M_strike 3 ls (.ref a :: st) σ Q = ax_f (am_fld σ a 11 45) (fun v => ax k_M_strike 6 ls (v :: st) σ Q) := ru_getf f_M_strike_3 rfl
theorem f_M_strike_6 : am_cd k_M_strike 6 = some ((some .boolean), .iconst 1, (0, 0, 0, 0, 0, .null)) := rfl
theorem s_M_strike_6 {ls : am_L} {st : List Value} {σ : am_H} {Q : Option Value → am_H → Prop} : ax k_M_strike 6 ls st σ Q = ax k_M_strike 7 ls (.int 1 :: st) σ Q := ru_iconst f_M_strike_6 (by decide +kernel) rfl
theorem f_M_strike_7 : am_cd k_M_strike 7 = some ((some .boolean), .isub, (0, 0, 0, 0, 0, .null)) := rfl
theorem s_M_strike_7 {ls : am_L} {st : List Value} {σ : am_H} {Q : Option Value → am_H → Prop} {x y : Int32} : ax k_M_strike 7 ls (.int y :: .int x :: st) σ Q = ax k_M_strike 8 ls (.int (x - y) :: st) σ Q := ru_pure f_M_strike_7 rfl rfl
theorem f_M_strike_8 : am_cd k_M_strike 8 = some ((some .boolean), .invokestatic 154, (113, 3, 1110, 0, 11, .null)) := rfl
theorem s_M_strike_8 {ls : am_L} {st : List Value} {σ : am_H} {Q : Option Value → am_H → Prop} {p0 : Int32} {p1 : Int32} {p2 : Int32} (h8 : am_s8 st) : ax k_M_strike 8 ls (.int p2 :: .int p1 :: .int p0 :: st) σ Q = ax k_M_isIn 0 [some (.int p0), some (.int p1), some (.int p2)] [] σ (ax_k k_M_strike 11 ls st Q) := ru_sta (M' := rk_M_isIn) f_M_strike_8 rfl (by decide) rfl (by simp) rfl h8 rfl rfl rfl rfl rfl
theorem f_M_strike_11 : am_cd k_M_strike 11 = some ((some .boolean), .ifCond .eq 12, (23, 0, 0, 0, 0, .null)) := rfl
theorem s_M_strike_11 {ls : am_L} {st : List Value} {σ : am_H} {Q : Option Value → am_H → Prop} {x : Int32} : ax k_M_strike 11 ls (.int x :: st) σ Q = (if x = 0 then ax k_M_strike 23 ls st σ Q else ax k_M_strike 14 ls st σ Q) := (ru_if f_M_strike_11 rfl).trans (ru_i_eq _ _ _ _)
theorem f_M_strike_14 : am_cd k_M_strike 14 = some ((some .boolean), .aload_n 0, (0, 0, 0, 0, 0, .null)) := rfl
theorem s_M_strike_14 {a1 : Option Value} {st : List Value} {σ : am_H} {Q : Option Value → am_H → Prop} {x : Nat} : ax k_M_strike 14 [some (.ref x), a1] st σ Q = ax k_M_strike 15 [some (.ref x), a1] (.ref x :: st) σ Q := ru_loc (q := (_, _)) f_M_strike_14 rfl rfl rfl
theorem f_M_strike_15 : am_cd k_M_strike 15 = some ((some .boolean), .getfield 136, (11, 56, 973, 0, 3, .null)) := rfl
theorem s_M_strike_15 {ls : am_L} {st : List Value} {σ : am_H} {Q : Option Value → am_H → Prop} {a : Nat} : ax k_M_strike 15 ls (.ref a :: st) σ Q = ax_f (am_fld σ a 11 56) (fun v => ax k_M_strike 18 ls (v :: st) σ Q) := ru_getf f_M_strike_15 rfl
theorem f_M_strike_18 : am_cd k_M_strike 18 = some ((some .boolean), .iload_n 1, (0, 0, 0, 0, 0, .null)) := rfl
theorem s_M_strike_18 {a0 : Option Value} {st : List Value} {σ : am_H} {Q : Option Value → am_H → Prop} {x : Int32} : ax k_M_strike 18 [a0, some (.int x)] st σ Q = ax k_M_strike 19 [a0, some (.int x)] (.int x :: st) σ Q := ru_loc (q := (_, _)) f_M_strike_18 rfl rfl rfl
theorem f_M_strike_19 : am_cd k_M_strike 19 = some ((some .boolean), .baload, (0, 0, 0, 0, 0, .null)) := rfl
theorem s_M_strike_19 {ls : am_L} {st : List Value} {σ : am_H} {Q : Option Value → am_H → Prop} {a : Nat} {j : Int32} : ax k_M_strike 19 ls (.int j :: .ref a :: st) σ Q = ax_f (am_j σ a) (fun q => (q.1 = 1 ∨ q.1 = 2) ∧ am_ix j q.2.1 ∧ ax k_M_strike 20 ls (.int (q.2.2 j.toNatClampNeg) :: st) σ Q) := rv_bald f_M_strike_19 rfl
theorem f_M_strike_20 : am_cd k_M_strike 20 = some ((some .boolean), .ifCond .eq 5, (25, 0, 0, 0, 0, .null)) := rfl
theorem s_M_strike_20 {ls : am_L} {st : List Value} {σ : am_H} {Q : Option Value → am_H → Prop} {x : Int32} : ax k_M_strike 20 ls (.int x :: st) σ Q = (if x = 0 then ax k_M_strike 25 ls st σ Q else ax k_M_strike 23 ls st σ Q) := (ru_if f_M_strike_20 rfl).trans (ru_i_eq _ _ _ _)
theorem f_M_strike_23 : am_cd k_M_strike 23 = some ((some .boolean), .iconst 0, (0, 0, 0, 0, 0, .null)) := rfl
theorem s_M_strike_23 {ls : am_L} {st : List Value} {σ : am_H} {Q : Option Value → am_H → Prop} : ax k_M_strike 23 ls st σ Q = ax k_M_strike 24 ls (.int 0 :: st) σ Q := ru_iconst f_M_strike_23 (by decide +kernel) rfl
theorem f_M_strike_24 : am_cd k_M_strike 24 = some ((some .boolean), .ireturn, (0, 0, 0, 0, 0, .null)) := rfl
theorem s_M_strike_24 {ls : am_L} {σ : am_H} {Q : Option Value → am_H → Prop} {v : Int32} : ax k_M_strike 24 ls ([.int v]) σ Q = (am_nar .boolean v = true ∧ Q (some (.int v)) σ) := ru_iret f_M_strike_24
theorem f_M_strike_25 : am_cd k_M_strike 25 = some ((some .boolean), .aload_n 0, (0, 0, 0, 0, 0, .null)) := rfl
theorem s_M_strike_25 {a1 : Option Value} {st : List Value} {σ : am_H} {Q : Option Value → am_H → Prop} {x : Nat} : ax k_M_strike 25 [some (.ref x), a1] st σ Q = ax k_M_strike 26 [some (.ref x), a1] (.ref x :: st) σ Q := ru_loc (q := (_, _)) f_M_strike_25 rfl rfl rfl
theorem f_M_strike_26 : am_cd k_M_strike 26 = some ((some .boolean), .getfield 136, (11, 56, 973, 0, 3, .null)) := rfl
theorem s_M_strike_26 {ls : am_L} {st : List Value} {σ : am_H} {Q : Option Value → am_H → Prop} {a : Nat} : ax k_M_strike 26 ls (.ref a :: st) σ Q = ax_f (am_fld σ a 11 56) (fun v => ax k_M_strike 29 ls (v :: st) σ Q) := ru_getf f_M_strike_26 rfl
theorem f_M_strike_29 : am_cd k_M_strike 29 = some ((some .boolean), .iload_n 1, (0, 0, 0, 0, 0, .null)) := rfl
theorem s_M_strike_29 {a0 : Option Value} {st : List Value} {σ : am_H} {Q : Option Value → am_H → Prop} {x : Int32} : ax k_M_strike 29 [a0, some (.int x)] st σ Q = ax k_M_strike 30 [a0, some (.int x)] (.int x :: st) σ Q := ru_loc (q := (_, _)) f_M_strike_29 rfl rfl rfl
theorem f_M_strike_30 : am_cd k_M_strike 30 = some ((some .boolean), .iconst 1, (0, 0, 0, 0, 0, .null)) := rfl
theorem s_M_strike_30 {ls : am_L} {st : List Value} {σ : am_H} {Q : Option Value → am_H → Prop} : ax k_M_strike 30 ls st σ Q = ax k_M_strike 31 ls (.int 1 :: st) σ Q := ru_iconst f_M_strike_30 (by decide +kernel) rfl
theorem f_M_strike_31 : am_cd k_M_strike 31 = some ((some .boolean), .bastore, (0, 0, 0, 0, 0, .null)) := rfl
theorem s_M_strike_31 {ls : am_L} {st : List Value} {σ : am_H} {Q : Option Value → am_H → Prop} {a : Nat} {j x : Int32} : ax k_M_strike 31 ls (.int x :: .int j :: .ref a :: st) σ Q = ax_f (am_j σ a) (fun q => q.1 = 1 ∧ am_ix j q.2.1 ∧ a < am_top ∧ (x = 0 ∨ x = 1) ∧ ax k_M_strike 32 ls st (am_set σ a (am_ia 1 q.2.1 (upd q.2.2 j.toNatClampNeg x))) Q) := rv_zast f_M_strike_31 rfl
theorem f_M_strike_32 : am_cd k_M_strike 32 = some ((some .boolean), .iconst 1, (0, 0, 0, 0, 0, .null)) := rfl
theorem s_M_strike_32 {ls : am_L} {st : List Value} {σ : am_H} {Q : Option Value → am_H → Prop} : ax k_M_strike 32 ls st σ Q = ax k_M_strike 33 ls (.int 1 :: st) σ Q := ru_iconst f_M_strike_32 (by decide +kernel) rfl
theorem f_M_strike_33 : am_cd k_M_strike 33 = some ((some .boolean), .ireturn, (0, 0, 0, 0, 0, .null)) := rfl
theorem s_M_strike_33 {ls : am_L} {σ : am_H} {Q : Option Value → am_H → Prop} {v : Int32} : ax k_M_strike 33 ls ([.int v]) σ Q = (am_nar .boolean v = true ∧ Q (some (.int v)) σ) := ru_iret f_M_strike_33
theorem f_M_saleOf_0 : am_cd k_M_saleOf 0 = some ((some .int), .iload_n 1, (0, 0, 0, 0, 0, .null)) := rfl
theorem s_M_saleOf_0 {a0 a2 : Option Value} {st : List Value} {σ : am_H} {Q : Option Value → am_H → Prop} {x : Int32} : ax k_M_saleOf 0 [a0, some (.int x), a2] st σ Q = ax k_M_saleOf 1 [a0, some (.int x), a2] (.int x :: st) σ Q := ru_loc (q := (_, _)) f_M_saleOf_0 rfl rfl rfl
theorem f_M_saleOf_1 : am_cd k_M_saleOf 1 = some ((some .int), .iconst 0, (0, 0, 0, 0, 0, .null)) := rfl
theorem s_M_saleOf_1 {ls : am_L} {st : List Value} {σ : am_H} {Q : Option Value → am_H → Prop} : ax k_M_saleOf 1 ls st σ Q = ax k_M_saleOf 2 ls (.int 0 :: st) σ Q := ru_iconst f_M_saleOf_1 (by decide +kernel) rfl
theorem f_M_saleOf_2 : am_cd k_M_saleOf 2 = some ((some .int), .aload_n 0, (0, 0, 0, 0, 0, .null)) := rfl
theorem s_M_saleOf_2 {a1 a2 : Option Value} {st : List Value} {σ : am_H} {Q : Option Value → am_H → Prop} {x : Nat} : ax k_M_saleOf 2 [some (.ref x), a1, a2] st σ Q = ax k_M_saleOf 3 [some (.ref x), a1, a2] (.ref x :: st) σ Q := ru_loc (q := (_, _)) f_M_saleOf_2 rfl rfl rfl
theorem f_M_saleOf_3 : am_cd k_M_saleOf 3 = some ((some .int), .getfield 293, (11, 45, 962, 0, 0, .null)) := rfl
theorem s_M_saleOf_3 {ls : am_L} {st : List Value} {σ : am_H} {Q : Option Value → am_H → Prop} {a : Nat} : ax k_M_saleOf 3 ls (.ref a :: st) σ Q = ax_f (am_fld σ a 11 45) (fun v => ax k_M_saleOf 6 ls (v :: st) σ Q) := ru_getf f_M_saleOf_3 rfl
theorem f_M_saleOf_6 : am_cd k_M_saleOf 6 = some ((some .int), .iconst 1, (0, 0, 0, 0, 0, .null)) := rfl
theorem s_M_saleOf_6 {ls : am_L} {st : List Value} {σ : am_H} {Q : Option Value → am_H → Prop} : ax k_M_saleOf 6 ls st σ Q = ax k_M_saleOf 7 ls (.int 1 :: st) σ Q := ru_iconst f_M_saleOf_6 (by decide +kernel) rfl
theorem f_M_saleOf_7 : am_cd k_M_saleOf 7 = some ((some .int), .isub, (0, 0, 0, 0, 0, .null)) := rfl
theorem s_M_saleOf_7 {ls : am_L} {st : List Value} {σ : am_H} {Q : Option Value → am_H → Prop} {x y : Int32} : ax k_M_saleOf 7 ls (.int y :: .int x :: st) σ Q = ax k_M_saleOf 8 ls (.int (x - y) :: st) σ Q := ru_pure f_M_saleOf_7 rfl rfl
theorem f_M_saleOf_8 : am_cd k_M_saleOf 8 = some ((some .int), .invokestatic 154, (113, 3, 1110, 0, 11, .null)) := rfl
theorem s_M_saleOf_8 {ls : am_L} {st : List Value} {σ : am_H} {Q : Option Value → am_H → Prop} {p0 : Int32} {p1 : Int32} {p2 : Int32} (h8 : am_s8 st) : ax k_M_saleOf 8 ls (.int p2 :: .int p1 :: .int p0 :: st) σ Q = ax k_M_isIn 0 [some (.int p0), some (.int p1), some (.int p2)] [] σ (ax_k k_M_saleOf 11 ls st Q) := ru_sta (M' := rk_M_isIn) f_M_saleOf_8 rfl (by decide) rfl (by simp) rfl h8 rfl rfl rfl rfl rfl
theorem f_M_saleOf_11 : am_cd k_M_saleOf 11 = some ((some .int), .ifCond .ne 5, (16, 0, 0, 0, 0, .null)) := rfl
theorem s_M_saleOf_11 {ls : am_L} {st : List Value} {σ : am_H} {Q : Option Value → am_H → Prop} {x : Int32} : ax k_M_saleOf 11 ls (.int x :: st) σ Q = (if x = 0 then ax k_M_saleOf 14 ls st σ Q else ax k_M_saleOf 16 ls st σ Q) := (ru_if f_M_saleOf_11 rfl).trans (ru_i_ne _ _ _ _)
theorem f_M_saleOf_14 : am_cd k_M_saleOf 14 = some ((some .int), .iconst (-1), (0, 0, 0, 0, 0, .null)) := rfl
theorem s_M_saleOf_14 {ls : am_L} {st : List Value} {σ : am_H} {Q : Option Value → am_H → Prop} : ax k_M_saleOf 14 ls st σ Q = ax k_M_saleOf 15 ls (.int (-1) :: st) σ Q := ru_iconst f_M_saleOf_14 (by decide +kernel) rfl
theorem f_M_saleOf_15 : am_cd k_M_saleOf 15 = some ((some .int), .ireturn, (0, 0, 0, 0, 0, .null)) := rfl
theorem s_M_saleOf_15 {ls : am_L} {σ : am_H} {Q : Option Value → am_H → Prop} {v : Int32} : ax k_M_saleOf 15 ls [.int v] σ Q = Q (some (.int v)) σ := ru_iretI f_M_saleOf_15
theorem f_M_saleOf_16 : am_cd k_M_saleOf 16 = some ((some .int), .iload_n 2, (0, 0, 0, 0, 0, .null)) := rfl
theorem s_M_saleOf_16 {a0 a1 : Option Value} {st : List Value} {σ : am_H} {Q : Option Value → am_H → Prop} {x : Int32} : ax k_M_saleOf 16 [a0, a1, some (.int x)] st σ Q = ax k_M_saleOf 17 [a0, a1, some (.int x)] (.int x :: st) σ Q := ru_loc (q := (_, _)) f_M_saleOf_16 rfl rfl rfl
theorem f_M_saleOf_17 : am_cd k_M_saleOf 17 = some ((some .int), .tableswitch 144 0 10 #[59, 66, 73, 80, 87, 94, 101, 108, 115, 122, 137], (0, 0, 0, 0, 0, .null)) := rfl
theorem s_M_saleOf_17 {ls : am_L} {st : List Value} {σ : am_H} {Q : Option Value → am_H → Prop} {x : Int32} : ax k_M_saleOf 17 ls (.int x :: st) σ Q = (if x = 0 then ax k_M_saleOf 76 ls st σ Q else (if x = 1 then ax k_M_saleOf 83 ls st σ Q else (if x = 2 then ax k_M_saleOf 90 ls st σ Q else (if x = 3 then ax k_M_saleOf 97 ls st σ Q else (if x = 4 then ax k_M_saleOf 104 ls st σ Q else (if x = 5 then ax k_M_saleOf 111 ls st σ Q else (if x = 6 then ax k_M_saleOf 118 ls st σ Q else (if x = 7 then ax k_M_saleOf 125 ls st σ Q else (if x = 8 then ax k_M_saleOf 132 ls st σ Q else (if x = 9 then ax k_M_saleOf 139 ls st σ Q else (if x = 10 then ax k_M_saleOf 154 ls st σ Q else ax k_M_saleOf 161 ls st σ Q))))))))))) := by
  by_cases h0 : x = 0
  · rw [if_pos h0]; subst h0; exact ru_tabI f_M_saleOf_17 (by decide) rfl rfl
  by_cases h1 : x = 1
  · rw [if_neg h0, if_pos h1]; subst h1; exact ru_tabI f_M_saleOf_17 (by decide) rfl rfl
  by_cases h2 : x = 2
  · rw [if_neg h0, if_neg h1, if_pos h2]; subst h2; exact ru_tabI f_M_saleOf_17 (by decide) rfl rfl
  by_cases h3 : x = 3
  · rw [if_neg h0, if_neg h1, if_neg h2, if_pos h3]; subst h3; exact ru_tabI f_M_saleOf_17 (by decide) rfl rfl
  by_cases h4 : x = 4
  · rw [if_neg h0, if_neg h1, if_neg h2, if_neg h3, if_pos h4]; subst h4; exact ru_tabI f_M_saleOf_17 (by decide) rfl rfl
  by_cases h5 : x = 5
  · rw [if_neg h0, if_neg h1, if_neg h2, if_neg h3, if_neg h4, if_pos h5]; subst h5; exact ru_tabI f_M_saleOf_17 (by decide) rfl rfl
  by_cases h6 : x = 6
  · rw [if_neg h0, if_neg h1, if_neg h2, if_neg h3, if_neg h4, if_neg h5, if_pos h6]; subst h6; exact ru_tabI f_M_saleOf_17 (by decide) rfl rfl
  by_cases h7 : x = 7
  · rw [if_neg h0, if_neg h1, if_neg h2, if_neg h3, if_neg h4, if_neg h5, if_neg h6, if_pos h7]; subst h7; exact ru_tabI f_M_saleOf_17 (by decide) rfl rfl
  by_cases h8 : x = 8
  · rw [if_neg h0, if_neg h1, if_neg h2, if_neg h3, if_neg h4, if_neg h5, if_neg h6, if_neg h7, if_pos h8]; subst h8; exact ru_tabI f_M_saleOf_17 (by decide) rfl rfl
  by_cases h9 : x = 9
  · rw [if_neg h0, if_neg h1, if_neg h2, if_neg h3, if_neg h4, if_neg h5, if_neg h6, if_neg h7, if_neg h8, if_pos h9]; subst h9; exact ru_tabI f_M_saleOf_17 (by decide) rfl rfl
  by_cases h10 : x = 10
  · rw [if_neg h0, if_neg h1, if_neg h2, if_neg h3, if_neg h4, if_neg h5, if_neg h6, if_neg h7, if_neg h8, if_neg h9, if_pos h10]; subst h10; exact ru_tabI f_M_saleOf_17 (by decide) rfl rfl
  rw [if_neg h0, if_neg h1, if_neg h2, if_neg h3, if_neg h4, if_neg h5, if_neg h6, if_neg h7, if_neg h8, if_neg h9, if_neg h10]
  have e0 : ¬ x.toInt = 0 := fun z => h0 (Int32.toInt_inj.mp (z.trans (by decide)))
  have e1 : ¬ x.toInt = 1 := fun z => h1 (Int32.toInt_inj.mp (z.trans (by decide)))
  have e2 : ¬ x.toInt = 2 := fun z => h2 (Int32.toInt_inj.mp (z.trans (by decide)))
  have e3 : ¬ x.toInt = 3 := fun z => h3 (Int32.toInt_inj.mp (z.trans (by decide)))
  have e4 : ¬ x.toInt = 4 := fun z => h4 (Int32.toInt_inj.mp (z.trans (by decide)))
  have e5 : ¬ x.toInt = 5 := fun z => h5 (Int32.toInt_inj.mp (z.trans (by decide)))
  have e6 : ¬ x.toInt = 6 := fun z => h6 (Int32.toInt_inj.mp (z.trans (by decide)))
  have e7 : ¬ x.toInt = 7 := fun z => h7 (Int32.toInt_inj.mp (z.trans (by decide)))
  have e8 : ¬ x.toInt = 8 := fun z => h8 (Int32.toInt_inj.mp (z.trans (by decide)))
  have e9 : ¬ x.toInt = 9 := fun z => h9 (Int32.toInt_inj.mp (z.trans (by decide)))
  have e10 : ¬ x.toInt = 10 := fun z => h10 (Int32.toInt_inj.mp (z.trans (by decide)))
  exact ru_tabO f_M_saleOf_17 (by omega) rfl
theorem f_M_saleOf_76 : am_cd k_M_saleOf 76 = some ((some .int), .aload_n 0, (0, 0, 0, 0, 0, .null)) := rfl
theorem s_M_saleOf_76 {a1 a2 : Option Value} {st : List Value} {σ : am_H} {Q : Option Value → am_H → Prop} {x : Nat} : ax k_M_saleOf 76 [some (.ref x), a1, a2] st σ Q = ax k_M_saleOf 77 [some (.ref x), a1, a2] (.ref x :: st) σ Q := ru_loc (q := (_, _)) f_M_saleOf_76 rfl rfl rfl
theorem f_M_saleOf_77 : am_cd k_M_saleOf 77 = some ((some .int), .getfield 106, (11, 46, 963, 0, 3, .null)) := rfl
theorem s_M_saleOf_77 {ls : am_L} {st : List Value} {σ : am_H} {Q : Option Value → am_H → Prop} {a : Nat} : ax k_M_saleOf 77 ls (.ref a :: st) σ Q = ax_f (am_fld σ a 11 46) (fun v => ax k_M_saleOf 80 ls (v :: st) σ Q) := ru_getf f_M_saleOf_77 rfl
theorem f_M_saleOf_80 : am_cd k_M_saleOf 80 = some ((some .int), .iload_n 1, (0, 0, 0, 0, 0, .null)) := rfl
theorem s_M_saleOf_80 {a0 a2 : Option Value} {st : List Value} {σ : am_H} {Q : Option Value → am_H → Prop} {x : Int32} : ax k_M_saleOf 80 [a0, some (.int x), a2] st σ Q = ax k_M_saleOf 81 [a0, some (.int x), a2] (.int x :: st) σ Q := ru_loc (q := (_, _)) f_M_saleOf_80 rfl rfl rfl
theorem f_M_saleOf_81 : am_cd k_M_saleOf 81 = some ((some .int), .iaload, (0, 0, 0, 0, 0, .null)) := rfl
theorem s_M_saleOf_81 {ls : am_L} {st : List Value} {σ : am_H} {Q : Option Value → am_H → Prop} {a : Nat} {j : Int32} : ax k_M_saleOf 81 ls (.int j :: .ref a :: st) σ Q = ax_f (am_j σ a) (fun q => q.1 = 0 ∧ am_ix j q.2.1 ∧ ax k_M_saleOf 82 ls (.int (q.2.2 j.toNatClampNeg) :: st) σ Q) := rv_iald f_M_saleOf_81 rfl
theorem f_M_saleOf_82 : am_cd k_M_saleOf 82 = some ((some .int), .ireturn, (0, 0, 0, 0, 0, .null)) := rfl
theorem s_M_saleOf_82 {ls : am_L} {σ : am_H} {Q : Option Value → am_H → Prop} {v : Int32} : ax k_M_saleOf 82 ls [.int v] σ Q = Q (some (.int v)) σ := ru_iretI f_M_saleOf_82
theorem f_M_saleOf_83 : am_cd k_M_saleOf 83 = some ((some .int), .aload_n 0, (0, 0, 0, 0, 0, .null)) := rfl
theorem s_M_saleOf_83 {a1 a2 : Option Value} {st : List Value} {σ : am_H} {Q : Option Value → am_H → Prop} {x : Nat} : ax k_M_saleOf 83 [some (.ref x), a1, a2] st σ Q = ax k_M_saleOf 84 [some (.ref x), a1, a2] (.ref x :: st) σ Q := ru_loc (q := (_, _)) f_M_saleOf_83 rfl rfl rfl
theorem f_M_saleOf_84 : am_cd k_M_saleOf 84 = some ((some .int), .getfield 109, (11, 47, 964, 0, 3, .null)) := rfl
theorem s_M_saleOf_84 {ls : am_L} {st : List Value} {σ : am_H} {Q : Option Value → am_H → Prop} {a : Nat} : ax k_M_saleOf 84 ls (.ref a :: st) σ Q = ax_f (am_fld σ a 11 47) (fun v => ax k_M_saleOf 87 ls (v :: st) σ Q) := ru_getf f_M_saleOf_84 rfl
theorem f_M_saleOf_87 : am_cd k_M_saleOf 87 = some ((some .int), .iload_n 1, (0, 0, 0, 0, 0, .null)) := rfl
theorem s_M_saleOf_87 {a0 a2 : Option Value} {st : List Value} {σ : am_H} {Q : Option Value → am_H → Prop} {x : Int32} : ax k_M_saleOf 87 [a0, some (.int x), a2] st σ Q = ax k_M_saleOf 88 [a0, some (.int x), a2] (.int x :: st) σ Q := ru_loc (q := (_, _)) f_M_saleOf_87 rfl rfl rfl
theorem f_M_saleOf_88 : am_cd k_M_saleOf 88 = some ((some .int), .iaload, (0, 0, 0, 0, 0, .null)) := rfl
theorem s_M_saleOf_88 {ls : am_L} {st : List Value} {σ : am_H} {Q : Option Value → am_H → Prop} {a : Nat} {j : Int32} : ax k_M_saleOf 88 ls (.int j :: .ref a :: st) σ Q = ax_f (am_j σ a) (fun q => q.1 = 0 ∧ am_ix j q.2.1 ∧ ax k_M_saleOf 89 ls (.int (q.2.2 j.toNatClampNeg) :: st) σ Q) := rv_iald f_M_saleOf_88 rfl
theorem f_M_saleOf_89 : am_cd k_M_saleOf 89 = some ((some .int), .ireturn, (0, 0, 0, 0, 0, .null)) := rfl
theorem s_M_saleOf_89 {ls : am_L} {σ : am_H} {Q : Option Value → am_H → Prop} {v : Int32} : ax k_M_saleOf 89 ls [.int v] σ Q = Q (some (.int v)) σ := ru_iretI f_M_saleOf_89
theorem f_M_saleOf_90 : am_cd k_M_saleOf 90 = some ((some .int), .aload_n 0, (0, 0, 0, 0, 0, .null)) := rfl
theorem s_M_saleOf_90 {a1 a2 : Option Value} {st : List Value} {σ : am_H} {Q : Option Value → am_H → Prop} {x : Nat} : ax k_M_saleOf 90 [some (.ref x), a1, a2] st σ Q = ax k_M_saleOf 91 [some (.ref x), a1, a2] (.ref x :: st) σ Q := ru_loc (q := (_, _)) f_M_saleOf_90 rfl rfl rfl
theorem f_M_saleOf_91 : am_cd k_M_saleOf 91 = some ((some .int), .getfield 112, (11, 48, 965, 0, 3, .null)) := rfl
theorem s_M_saleOf_91 {ls : am_L} {st : List Value} {σ : am_H} {Q : Option Value → am_H → Prop} {a : Nat} : ax k_M_saleOf 91 ls (.ref a :: st) σ Q = ax_f (am_fld σ a 11 48) (fun v => ax k_M_saleOf 94 ls (v :: st) σ Q) := ru_getf f_M_saleOf_91 rfl
theorem f_M_saleOf_94 : am_cd k_M_saleOf 94 = some ((some .int), .iload_n 1, (0, 0, 0, 0, 0, .null)) := rfl
theorem s_M_saleOf_94 {a0 a2 : Option Value} {st : List Value} {σ : am_H} {Q : Option Value → am_H → Prop} {x : Int32} : ax k_M_saleOf 94 [a0, some (.int x), a2] st σ Q = ax k_M_saleOf 95 [a0, some (.int x), a2] (.int x :: st) σ Q := ru_loc (q := (_, _)) f_M_saleOf_94 rfl rfl rfl
theorem f_M_saleOf_95 : am_cd k_M_saleOf 95 = some ((some .int), .iaload, (0, 0, 0, 0, 0, .null)) := rfl
theorem s_M_saleOf_95 {ls : am_L} {st : List Value} {σ : am_H} {Q : Option Value → am_H → Prop} {a : Nat} {j : Int32} : ax k_M_saleOf 95 ls (.int j :: .ref a :: st) σ Q = ax_f (am_j σ a) (fun q => q.1 = 0 ∧ am_ix j q.2.1 ∧ ax k_M_saleOf 96 ls (.int (q.2.2 j.toNatClampNeg) :: st) σ Q) := rv_iald f_M_saleOf_95 rfl
theorem f_M_saleOf_96 : am_cd k_M_saleOf 96 = some ((some .int), .ireturn, (0, 0, 0, 0, 0, .null)) := rfl
theorem s_M_saleOf_96 {ls : am_L} {σ : am_H} {Q : Option Value → am_H → Prop} {v : Int32} : ax k_M_saleOf 96 ls [.int v] σ Q = Q (some (.int v)) σ := ru_iretI f_M_saleOf_96
theorem f_M_saleOf_97 : am_cd k_M_saleOf 97 = some ((some .int), .aload_n 0, (0, 0, 0, 0, 0, .null)) := rfl
theorem s_M_saleOf_97 {a1 a2 : Option Value} {st : List Value} {σ : am_H} {Q : Option Value → am_H → Prop} {x : Nat} : ax k_M_saleOf 97 [some (.ref x), a1, a2] st σ Q = ax k_M_saleOf 98 [some (.ref x), a1, a2] (.ref x :: st) σ Q := ru_loc (q := (_, _)) f_M_saleOf_97 rfl rfl rfl
theorem f_M_saleOf_98 : am_cd k_M_saleOf 98 = some ((some .int), .getfield 115, (11, 49, 966, 0, 3, .null)) := rfl
theorem s_M_saleOf_98 {ls : am_L} {st : List Value} {σ : am_H} {Q : Option Value → am_H → Prop} {a : Nat} : ax k_M_saleOf 98 ls (.ref a :: st) σ Q = ax_f (am_fld σ a 11 49) (fun v => ax k_M_saleOf 101 ls (v :: st) σ Q) := ru_getf f_M_saleOf_98 rfl
theorem f_M_saleOf_101 : am_cd k_M_saleOf 101 = some ((some .int), .iload_n 1, (0, 0, 0, 0, 0, .null)) := rfl
theorem s_M_saleOf_101 {a0 a2 : Option Value} {st : List Value} {σ : am_H} {Q : Option Value → am_H → Prop} {x : Int32} : ax k_M_saleOf 101 [a0, some (.int x), a2] st σ Q = ax k_M_saleOf 102 [a0, some (.int x), a2] (.int x :: st) σ Q := ru_loc (q := (_, _)) f_M_saleOf_101 rfl rfl rfl
theorem f_M_saleOf_102 : am_cd k_M_saleOf 102 = some ((some .int), .iaload, (0, 0, 0, 0, 0, .null)) := rfl
theorem s_M_saleOf_102 {ls : am_L} {st : List Value} {σ : am_H} {Q : Option Value → am_H → Prop} {a : Nat} {j : Int32} : ax k_M_saleOf 102 ls (.int j :: .ref a :: st) σ Q = ax_f (am_j σ a) (fun q => q.1 = 0 ∧ am_ix j q.2.1 ∧ ax k_M_saleOf 103 ls (.int (q.2.2 j.toNatClampNeg) :: st) σ Q) := rv_iald f_M_saleOf_102 rfl
theorem f_M_saleOf_103 : am_cd k_M_saleOf 103 = some ((some .int), .ireturn, (0, 0, 0, 0, 0, .null)) := rfl
theorem s_M_saleOf_103 {ls : am_L} {σ : am_H} {Q : Option Value → am_H → Prop} {v : Int32} : ax k_M_saleOf 103 ls [.int v] σ Q = Q (some (.int v)) σ := ru_iretI f_M_saleOf_103
theorem f_M_saleOf_104 : am_cd k_M_saleOf 104 = some ((some .int), .aload_n 0, (0, 0, 0, 0, 0, .null)) := rfl
theorem s_M_saleOf_104 {a1 a2 : Option Value} {st : List Value} {σ : am_H} {Q : Option Value → am_H → Prop} {x : Nat} : ax k_M_saleOf 104 [some (.ref x), a1, a2] st σ Q = ax k_M_saleOf 105 [some (.ref x), a1, a2] (.ref x :: st) σ Q := ru_loc (q := (_, _)) f_M_saleOf_104 rfl rfl rfl
theorem f_M_saleOf_105 : am_cd k_M_saleOf 105 = some ((some .int), .getfield 118, (11, 50, 967, 0, 3, .null)) := rfl
theorem s_M_saleOf_105 {ls : am_L} {st : List Value} {σ : am_H} {Q : Option Value → am_H → Prop} {a : Nat} : ax k_M_saleOf 105 ls (.ref a :: st) σ Q = ax_f (am_fld σ a 11 50) (fun v => ax k_M_saleOf 108 ls (v :: st) σ Q) := ru_getf f_M_saleOf_105 rfl
theorem f_M_saleOf_108 : am_cd k_M_saleOf 108 = some ((some .int), .iload_n 1, (0, 0, 0, 0, 0, .null)) := rfl
theorem s_M_saleOf_108 {a0 a2 : Option Value} {st : List Value} {σ : am_H} {Q : Option Value → am_H → Prop} {x : Int32} : ax k_M_saleOf 108 [a0, some (.int x), a2] st σ Q = ax k_M_saleOf 109 [a0, some (.int x), a2] (.int x :: st) σ Q := ru_loc (q := (_, _)) f_M_saleOf_108 rfl rfl rfl
theorem f_M_saleOf_109 : am_cd k_M_saleOf 109 = some ((some .int), .iaload, (0, 0, 0, 0, 0, .null)) := rfl
theorem s_M_saleOf_109 {ls : am_L} {st : List Value} {σ : am_H} {Q : Option Value → am_H → Prop} {a : Nat} {j : Int32} : ax k_M_saleOf 109 ls (.int j :: .ref a :: st) σ Q = ax_f (am_j σ a) (fun q => q.1 = 0 ∧ am_ix j q.2.1 ∧ ax k_M_saleOf 110 ls (.int (q.2.2 j.toNatClampNeg) :: st) σ Q) := rv_iald f_M_saleOf_109 rfl
theorem f_M_saleOf_110 : am_cd k_M_saleOf 110 = some ((some .int), .ireturn, (0, 0, 0, 0, 0, .null)) := rfl
theorem s_M_saleOf_110 {ls : am_L} {σ : am_H} {Q : Option Value → am_H → Prop} {v : Int32} : ax k_M_saleOf 110 ls [.int v] σ Q = Q (some (.int v)) σ := ru_iretI f_M_saleOf_110
theorem f_M_saleOf_111 : am_cd k_M_saleOf 111 = some ((some .int), .aload_n 0, (0, 0, 0, 0, 0, .null)) := rfl
theorem s_M_saleOf_111 {a1 a2 : Option Value} {st : List Value} {σ : am_H} {Q : Option Value → am_H → Prop} {x : Nat} : ax k_M_saleOf 111 [some (.ref x), a1, a2] st σ Q = ax k_M_saleOf 112 [some (.ref x), a1, a2] (.ref x :: st) σ Q := ru_loc (q := (_, _)) f_M_saleOf_111 rfl rfl rfl
theorem f_M_saleOf_112 : am_cd k_M_saleOf 112 = some ((some .int), .getfield 121, (11, 51, 968, 0, 3, .null)) := rfl
theorem s_M_saleOf_112 {ls : am_L} {st : List Value} {σ : am_H} {Q : Option Value → am_H → Prop} {a : Nat} : ax k_M_saleOf 112 ls (.ref a :: st) σ Q = ax_f (am_fld σ a 11 51) (fun v => ax k_M_saleOf 115 ls (v :: st) σ Q) := ru_getf f_M_saleOf_112 rfl
theorem f_M_saleOf_115 : am_cd k_M_saleOf 115 = some ((some .int), .iload_n 1, (0, 0, 0, 0, 0, .null)) := rfl
theorem s_M_saleOf_115 {a0 a2 : Option Value} {st : List Value} {σ : am_H} {Q : Option Value → am_H → Prop} {x : Int32} : ax k_M_saleOf 115 [a0, some (.int x), a2] st σ Q = ax k_M_saleOf 116 [a0, some (.int x), a2] (.int x :: st) σ Q := ru_loc (q := (_, _)) f_M_saleOf_115 rfl rfl rfl
theorem f_M_saleOf_116 : am_cd k_M_saleOf 116 = some ((some .int), .iaload, (0, 0, 0, 0, 0, .null)) := rfl
theorem s_M_saleOf_116 {ls : am_L} {st : List Value} {σ : am_H} {Q : Option Value → am_H → Prop} {a : Nat} {j : Int32} : ax k_M_saleOf 116 ls (.int j :: .ref a :: st) σ Q = ax_f (am_j σ a) (fun q => q.1 = 0 ∧ am_ix j q.2.1 ∧ ax k_M_saleOf 117 ls (.int (q.2.2 j.toNatClampNeg) :: st) σ Q) := rv_iald f_M_saleOf_116 rfl
theorem f_M_saleOf_117 : am_cd k_M_saleOf 117 = some ((some .int), .ireturn, (0, 0, 0, 0, 0, .null)) := rfl
theorem s_M_saleOf_117 {ls : am_L} {σ : am_H} {Q : Option Value → am_H → Prop} {v : Int32} : ax k_M_saleOf 117 ls [.int v] σ Q = Q (some (.int v)) σ := ru_iretI f_M_saleOf_117
theorem f_M_saleOf_118 : am_cd k_M_saleOf 118 = some ((some .int), .aload_n 0, (0, 0, 0, 0, 0, .null)) := rfl
theorem s_M_saleOf_118 {a1 a2 : Option Value} {st : List Value} {σ : am_H} {Q : Option Value → am_H → Prop} {x : Nat} : ax k_M_saleOf 118 [some (.ref x), a1, a2] st σ Q = ax k_M_saleOf 119 [some (.ref x), a1, a2] (.ref x :: st) σ Q := ru_loc (q := (_, _)) f_M_saleOf_118 rfl rfl rfl
theorem f_M_saleOf_119 : am_cd k_M_saleOf 119 = some ((some .int), .getfield 124, (11, 52, 969, 0, 3, .null)) := rfl
theorem s_M_saleOf_119 {ls : am_L} {st : List Value} {σ : am_H} {Q : Option Value → am_H → Prop} {a : Nat} : ax k_M_saleOf 119 ls (.ref a :: st) σ Q = ax_f (am_fld σ a 11 52) (fun v => ax k_M_saleOf 122 ls (v :: st) σ Q) := ru_getf f_M_saleOf_119 rfl
theorem f_M_saleOf_122 : am_cd k_M_saleOf 122 = some ((some .int), .iload_n 1, (0, 0, 0, 0, 0, .null)) := rfl
theorem s_M_saleOf_122 {a0 a2 : Option Value} {st : List Value} {σ : am_H} {Q : Option Value → am_H → Prop} {x : Int32} : ax k_M_saleOf 122 [a0, some (.int x), a2] st σ Q = ax k_M_saleOf 123 [a0, some (.int x), a2] (.int x :: st) σ Q := ru_loc (q := (_, _)) f_M_saleOf_122 rfl rfl rfl
theorem f_M_saleOf_123 : am_cd k_M_saleOf 123 = some ((some .int), .iaload, (0, 0, 0, 0, 0, .null)) := rfl
theorem s_M_saleOf_123 {ls : am_L} {st : List Value} {σ : am_H} {Q : Option Value → am_H → Prop} {a : Nat} {j : Int32} : ax k_M_saleOf 123 ls (.int j :: .ref a :: st) σ Q = ax_f (am_j σ a) (fun q => q.1 = 0 ∧ am_ix j q.2.1 ∧ ax k_M_saleOf 124 ls (.int (q.2.2 j.toNatClampNeg) :: st) σ Q) := rv_iald f_M_saleOf_123 rfl
theorem f_M_saleOf_124 : am_cd k_M_saleOf 124 = some ((some .int), .ireturn, (0, 0, 0, 0, 0, .null)) := rfl
theorem s_M_saleOf_124 {ls : am_L} {σ : am_H} {Q : Option Value → am_H → Prop} {v : Int32} : ax k_M_saleOf 124 ls [.int v] σ Q = Q (some (.int v)) σ := ru_iretI f_M_saleOf_124
theorem f_M_saleOf_125 : am_cd k_M_saleOf 125 = some ((some .int), .aload_n 0, (0, 0, 0, 0, 0, .null)) := rfl
theorem s_M_saleOf_125 {a1 a2 : Option Value} {st : List Value} {σ : am_H} {Q : Option Value → am_H → Prop} {x : Nat} : ax k_M_saleOf 125 [some (.ref x), a1, a2] st σ Q = ax k_M_saleOf 126 [some (.ref x), a1, a2] (.ref x :: st) σ Q := ru_loc (q := (_, _)) f_M_saleOf_125 rfl rfl rfl
theorem f_M_saleOf_126 : am_cd k_M_saleOf 126 = some ((some .int), .getfield 127, (11, 53, 970, 0, 3, .null)) := rfl
theorem s_M_saleOf_126 {ls : am_L} {st : List Value} {σ : am_H} {Q : Option Value → am_H → Prop} {a : Nat} : ax k_M_saleOf 126 ls (.ref a :: st) σ Q = ax_f (am_fld σ a 11 53) (fun v => ax k_M_saleOf 129 ls (v :: st) σ Q) := ru_getf f_M_saleOf_126 rfl
theorem f_M_saleOf_129 : am_cd k_M_saleOf 129 = some ((some .int), .iload_n 1, (0, 0, 0, 0, 0, .null)) := rfl
theorem s_M_saleOf_129 {a0 a2 : Option Value} {st : List Value} {σ : am_H} {Q : Option Value → am_H → Prop} {x : Int32} : ax k_M_saleOf 129 [a0, some (.int x), a2] st σ Q = ax k_M_saleOf 130 [a0, some (.int x), a2] (.int x :: st) σ Q := ru_loc (q := (_, _)) f_M_saleOf_129 rfl rfl rfl
theorem f_M_saleOf_130 : am_cd k_M_saleOf 130 = some ((some .int), .iaload, (0, 0, 0, 0, 0, .null)) := rfl
theorem s_M_saleOf_130 {ls : am_L} {st : List Value} {σ : am_H} {Q : Option Value → am_H → Prop} {a : Nat} {j : Int32} : ax k_M_saleOf 130 ls (.int j :: .ref a :: st) σ Q = ax_f (am_j σ a) (fun q => q.1 = 0 ∧ am_ix j q.2.1 ∧ ax k_M_saleOf 131 ls (.int (q.2.2 j.toNatClampNeg) :: st) σ Q) := rv_iald f_M_saleOf_130 rfl
theorem f_M_saleOf_131 : am_cd k_M_saleOf 131 = some ((some .int), .ireturn, (0, 0, 0, 0, 0, .null)) := rfl
theorem s_M_saleOf_131 {ls : am_L} {σ : am_H} {Q : Option Value → am_H → Prop} {v : Int32} : ax k_M_saleOf 131 ls [.int v] σ Q = Q (some (.int v)) σ := ru_iretI f_M_saleOf_131
theorem f_M_saleOf_132 : am_cd k_M_saleOf 132 = some ((some .int), .aload_n 0, (0, 0, 0, 0, 0, .null)) := rfl
theorem s_M_saleOf_132 {a1 a2 : Option Value} {st : List Value} {σ : am_H} {Q : Option Value → am_H → Prop} {x : Nat} : ax k_M_saleOf 132 [some (.ref x), a1, a2] st σ Q = ax k_M_saleOf 133 [some (.ref x), a1, a2] (.ref x :: st) σ Q := ru_loc (q := (_, _)) f_M_saleOf_132 rfl rfl rfl
theorem f_M_saleOf_133 : am_cd k_M_saleOf 133 = some ((some .int), .getfield 130, (11, 54, 971, 0, 3, .null)) := rfl
theorem s_M_saleOf_133 {ls : am_L} {st : List Value} {σ : am_H} {Q : Option Value → am_H → Prop} {a : Nat} : ax k_M_saleOf 133 ls (.ref a :: st) σ Q = ax_f (am_fld σ a 11 54) (fun v => ax k_M_saleOf 136 ls (v :: st) σ Q) := ru_getf f_M_saleOf_133 rfl
theorem f_M_saleOf_136 : am_cd k_M_saleOf 136 = some ((some .int), .iload_n 1, (0, 0, 0, 0, 0, .null)) := rfl
theorem s_M_saleOf_136 {a0 a2 : Option Value} {st : List Value} {σ : am_H} {Q : Option Value → am_H → Prop} {x : Int32} : ax k_M_saleOf 136 [a0, some (.int x), a2] st σ Q = ax k_M_saleOf 137 [a0, some (.int x), a2] (.int x :: st) σ Q := ru_loc (q := (_, _)) f_M_saleOf_136 rfl rfl rfl
theorem f_M_saleOf_137 : am_cd k_M_saleOf 137 = some ((some .int), .iaload, (0, 0, 0, 0, 0, .null)) := rfl
theorem s_M_saleOf_137 {ls : am_L} {st : List Value} {σ : am_H} {Q : Option Value → am_H → Prop} {a : Nat} {j : Int32} : ax k_M_saleOf 137 ls (.int j :: .ref a :: st) σ Q = ax_f (am_j σ a) (fun q => q.1 = 0 ∧ am_ix j q.2.1 ∧ ax k_M_saleOf 138 ls (.int (q.2.2 j.toNatClampNeg) :: st) σ Q) := rv_iald f_M_saleOf_137 rfl
theorem f_M_saleOf_138 : am_cd k_M_saleOf 138 = some ((some .int), .ireturn, (0, 0, 0, 0, 0, .null)) := rfl
theorem s_M_saleOf_138 {ls : am_L} {σ : am_H} {Q : Option Value → am_H → Prop} {v : Int32} : ax k_M_saleOf 138 ls [.int v] σ Q = Q (some (.int v)) σ := ru_iretI f_M_saleOf_138
theorem f_M_saleOf_139 : am_cd k_M_saleOf 139 = some ((some .int), .aload_n 0, (0, 0, 0, 0, 0, .null)) := rfl
theorem s_M_saleOf_139 {a1 a2 : Option Value} {st : List Value} {σ : am_H} {Q : Option Value → am_H → Prop} {x : Nat} : ax k_M_saleOf 139 [some (.ref x), a1, a2] st σ Q = ax k_M_saleOf 140 [some (.ref x), a1, a2] (.ref x :: st) σ Q := ru_loc (q := (_, _)) f_M_saleOf_139 rfl rfl rfl
theorem f_M_saleOf_140 : am_cd k_M_saleOf 140 = some ((some .int), .getfield 136, (11, 56, 973, 0, 3, .null)) := rfl
theorem s_M_saleOf_140 {ls : am_L} {st : List Value} {σ : am_H} {Q : Option Value → am_H → Prop} {a : Nat} : ax k_M_saleOf 140 ls (.ref a :: st) σ Q = ax_f (am_fld σ a 11 56) (fun v => ax k_M_saleOf 143 ls (v :: st) σ Q) := ru_getf f_M_saleOf_140 rfl
theorem f_M_saleOf_143 : am_cd k_M_saleOf 143 = some ((some .int), .iload_n 1, (0, 0, 0, 0, 0, .null)) := rfl
theorem s_M_saleOf_143 {a0 a2 : Option Value} {st : List Value} {σ : am_H} {Q : Option Value → am_H → Prop} {x : Int32} : ax k_M_saleOf 143 [a0, some (.int x), a2] st σ Q = ax k_M_saleOf 144 [a0, some (.int x), a2] (.int x :: st) σ Q := ru_loc (q := (_, _)) f_M_saleOf_143 rfl rfl rfl
theorem f_M_saleOf_144 : am_cd k_M_saleOf 144 = some ((some .int), .baload, (0, 0, 0, 0, 0, .null)) := rfl
theorem s_M_saleOf_144 {ls : am_L} {st : List Value} {σ : am_H} {Q : Option Value → am_H → Prop} {a : Nat} {j : Int32} : ax k_M_saleOf 144 ls (.int j :: .ref a :: st) σ Q = ax_f (am_j σ a) (fun q => (q.1 = 1 ∨ q.1 = 2) ∧ am_ix j q.2.1 ∧ ax k_M_saleOf 145 ls (.int (q.2.2 j.toNatClampNeg) :: st) σ Q) := rv_bald f_M_saleOf_144 rfl
theorem f_M_saleOf_145 : am_cd k_M_saleOf 145 = some ((some .int), .ifCond .eq 7, (152, 0, 0, 0, 0, .null)) := rfl
theorem s_M_saleOf_145 {ls : am_L} {st : List Value} {σ : am_H} {Q : Option Value → am_H → Prop} {x : Int32} : ax k_M_saleOf 145 ls (.int x :: st) σ Q = (if x = 0 then ax k_M_saleOf 152 ls st σ Q else ax k_M_saleOf 148 ls st σ Q) := (ru_if f_M_saleOf_145 rfl).trans (ru_i_eq _ _ _ _)
theorem f_M_saleOf_148 : am_cd k_M_saleOf 148 = some ((some .int), .iconst 1, (0, 0, 0, 0, 0, .null)) := rfl
theorem s_M_saleOf_148 {ls : am_L} {st : List Value} {σ : am_H} {Q : Option Value → am_H → Prop} : ax k_M_saleOf 148 ls st σ Q = ax k_M_saleOf 149 ls (.int 1 :: st) σ Q := ru_iconst f_M_saleOf_148 (by decide +kernel) rfl
theorem f_M_saleOf_149 : am_cd k_M_saleOf 149 = some ((some .int), .goto 4, (153, 0, 0, 0, 0, .null)) := rfl
theorem s_M_saleOf_149 {ls : am_L} {st : List Value} {σ : am_H} {Q : Option Value → am_H → Prop} : ax k_M_saleOf 149 ls st σ Q = ax k_M_saleOf 153 ls st σ Q := ru_goto f_M_saleOf_149
theorem f_M_saleOf_152 : am_cd k_M_saleOf 152 = some ((some .int), .iconst 0, (0, 0, 0, 0, 0, .null)) := rfl
theorem s_M_saleOf_152 {ls : am_L} {st : List Value} {σ : am_H} {Q : Option Value → am_H → Prop} : ax k_M_saleOf 152 ls st σ Q = ax k_M_saleOf 153 ls (.int 0 :: st) σ Q := ru_iconst f_M_saleOf_152 (by decide +kernel) rfl
theorem f_M_saleOf_153 : am_cd k_M_saleOf 153 = some ((some .int), .ireturn, (0, 0, 0, 0, 0, .null)) := rfl
theorem s_M_saleOf_153 {ls : am_L} {σ : am_H} {Q : Option Value → am_H → Prop} {v : Int32} : ax k_M_saleOf 153 ls [.int v] σ Q = Q (some (.int v)) σ := ru_iretI f_M_saleOf_153
theorem f_M_saleOf_154 : am_cd k_M_saleOf 154 = some ((some .int), .aload_n 0, (0, 0, 0, 0, 0, .null)) := rfl
theorem s_M_saleOf_154 {a1 a2 : Option Value} {st : List Value} {σ : am_H} {Q : Option Value → am_H → Prop} {x : Nat} : ax k_M_saleOf 154 [some (.ref x), a1, a2] st σ Q = ax k_M_saleOf 155 [some (.ref x), a1, a2] (.ref x :: st) σ Q := ru_loc (q := (_, _)) f_M_saleOf_154 rfl rfl rfl
theorem f_M_saleOf_155 : am_cd k_M_saleOf 155 = some ((some .int), .getfield 139, (11, 57, 974, 0, 3, .null)) := rfl
theorem s_M_saleOf_155 {ls : am_L} {st : List Value} {σ : am_H} {Q : Option Value → am_H → Prop} {a : Nat} : ax k_M_saleOf 155 ls (.ref a :: st) σ Q = ax_f (am_fld σ a 11 57) (fun v => ax k_M_saleOf 158 ls (v :: st) σ Q) := ru_getf f_M_saleOf_155 rfl
theorem f_M_saleOf_158 : am_cd k_M_saleOf 158 = some ((some .int), .iload_n 1, (0, 0, 0, 0, 0, .null)) := rfl
theorem s_M_saleOf_158 {a0 a2 : Option Value} {st : List Value} {σ : am_H} {Q : Option Value → am_H → Prop} {x : Int32} : ax k_M_saleOf 158 [a0, some (.int x), a2] st σ Q = ax k_M_saleOf 159 [a0, some (.int x), a2] (.int x :: st) σ Q := ru_loc (q := (_, _)) f_M_saleOf_158 rfl rfl rfl
theorem f_M_saleOf_159 : am_cd k_M_saleOf 159 = some ((some .int), .iaload, (0, 0, 0, 0, 0, .null)) := rfl
theorem s_M_saleOf_159 {ls : am_L} {st : List Value} {σ : am_H} {Q : Option Value → am_H → Prop} {a : Nat} {j : Int32} : ax k_M_saleOf 159 ls (.int j :: .ref a :: st) σ Q = ax_f (am_j σ a) (fun q => q.1 = 0 ∧ am_ix j q.2.1 ∧ ax k_M_saleOf 160 ls (.int (q.2.2 j.toNatClampNeg) :: st) σ Q) := rv_iald f_M_saleOf_159 rfl
theorem f_M_saleOf_160 : am_cd k_M_saleOf 160 = some ((some .int), .ireturn, (0, 0, 0, 0, 0, .null)) := rfl
theorem s_M_saleOf_160 {ls : am_L} {σ : am_H} {Q : Option Value → am_H → Prop} {v : Int32} : ax k_M_saleOf 160 ls [.int v] σ Q = Q (some (.int v)) σ := ru_iretI f_M_saleOf_160
theorem f_M_saleOf_161 : am_cd k_M_saleOf 161 = some ((some .int), .iconst (-1), (0, 0, 0, 0, 0, .null)) := rfl
theorem s_M_saleOf_161 {ls : am_L} {st : List Value} {σ : am_H} {Q : Option Value → am_H → Prop} : ax k_M_saleOf 161 ls st σ Q = ax k_M_saleOf 162 ls (.int (-1) :: st) σ Q := ru_iconst f_M_saleOf_161 (by decide +kernel) rfl
theorem f_M_saleOf_162 : am_cd k_M_saleOf 162 = some ((some .int), .ireturn, (0, 0, 0, 0, 0, .null)) := rfl
theorem s_M_saleOf_162 {ls : am_L} {σ : am_H} {Q : Option Value → am_H → Prop} {v : Int32} : ax k_M_saleOf 162 ls [.int v] σ Q = Q (some (.int v)) σ := ru_iretI f_M_saleOf_162
theorem f_M_got_0 : am_cd k_M_got 0 = some ((some .long), .iload_n 1, (0, 0, 0, 0, 0, .null)) := rfl
theorem s_M_got_0 {a0 a2 a3 a4 : Option Value} {st : List Value} {σ : am_H} {Q : Option Value → am_H → Prop} {x : Int32} : ax k_M_got 0 [a0, some (.int x), a2, a3, a4] st σ Q = ax k_M_got 1 [a0, some (.int x), a2, a3, a4] (.int x :: st) σ Q := ru_loc (q := (_, _)) f_M_got_0 rfl rfl rfl
theorem f_M_got_1 : am_cd k_M_got 1 = some ((some .long), .iconst (-1), (0, 0, 0, 0, 0, .null)) := rfl
theorem s_M_got_1 {ls : am_L} {st : List Value} {σ : am_H} {Q : Option Value → am_H → Prop} : ax k_M_got 1 ls st σ Q = ax k_M_got 2 ls (.int (-1) :: st) σ Q := ru_iconst f_M_got_1 (by decide +kernel) rfl
theorem f_M_got_2 : am_cd k_M_got 2 = some ((some .long), .bipush 15, (0, 0, 0, 0, 0, .null)) := rfl
theorem s_M_got_2 {ls : am_L} {st : List Value} {σ : am_H} {Q : Option Value → am_H → Prop} : ax k_M_got 2 ls st σ Q = ax k_M_got 4 ls (.int 15 :: st) σ Q := ru_bipush f_M_got_2 (by decide +kernel) rfl
theorem f_M_got_4 : am_cd k_M_got 4 = some ((some .long), .invokestatic 154, (113, 3, 1110, 0, 11, .null)) := rfl
theorem s_M_got_4 {ls : am_L} {st : List Value} {σ : am_H} {Q : Option Value → am_H → Prop} {p0 : Int32} {p1 : Int32} {p2 : Int32} (h8 : am_s8 st) : ax k_M_got 4 ls (.int p2 :: .int p1 :: .int p0 :: st) σ Q = ax k_M_isIn 0 [some (.int p0), some (.int p1), some (.int p2)] [] σ (ax_k k_M_got 7 ls st Q) := ru_sta (M' := rk_M_isIn) f_M_got_4 rfl (by decide) rfl (by simp) rfl h8 rfl rfl rfl rfl rfl
theorem f_M_got_7 : am_cd k_M_got 7 = some ((some .long), .ifCond .ne 5, (12, 0, 0, 0, 0, .null)) := rfl
theorem s_M_got_7 {ls : am_L} {st : List Value} {σ : am_H} {Q : Option Value → am_H → Prop} {x : Int32} : ax k_M_got 7 ls (.int x :: st) σ Q = (if x = 0 then ax k_M_got 10 ls st σ Q else ax k_M_got 12 ls st σ Q) := (ru_if f_M_got_7 rfl).trans (ru_i_ne _ _ _ _)
theorem f_M_got_10 : am_cd k_M_got 10 = some ((some .long), .lconst 0, (0, 0, 0, 0, 0, .null)) := rfl
theorem s_M_got_10 {ls : am_L} {st : List Value} {σ : am_H} {Q : Option Value → am_H → Prop} : ax k_M_got 10 ls st σ Q = ax k_M_got 11 ls (.long 0 :: st) σ Q := ru_lconst f_M_got_10 (by decide +kernel) rfl
theorem f_M_got_11 : am_cd k_M_got 11 = some ((some .long), .lreturn, (0, 0, 0, 0, 0, .null)) := rfl
theorem s_M_got_11 {ls : am_L} {σ : am_H} {Q : Option Value → am_H → Prop} {v : Int64} : ax k_M_got 11 ls ([.long v]) σ Q = Q (some (.long v)) σ := ru_ret f_M_got_11 rfl rfl rfl rfl rfl rfl rfl
theorem f_M_got_12 : am_cd k_M_got 12 = some ((some .long), .lconst 0, (0, 0, 0, 0, 0, .null)) := rfl
theorem s_M_got_12 {ls : am_L} {st : List Value} {σ : am_H} {Q : Option Value → am_H → Prop} : ax k_M_got 12 ls st σ Q = ax k_M_got 13 ls (.long 0 :: st) σ Q := ru_lconst f_M_got_12 (by decide +kernel) rfl
theorem f_M_got_13 : am_cd k_M_got 13 = some ((some .long), .lstore_n 2, (0, 0, 0, 0, 0, .null)) := rfl
theorem s_M_got_13 {a0 a1 a2 a3 a4 : Option Value} {st : List Value} {σ : am_H} {Q : Option Value → am_H → Prop} {x : Int64} (hc : am_c2 a1 = false) : ax k_M_got 13 [a0, a1, a2, a3, a4] (.long x :: st) σ Q = ax k_M_got 14 [a0, a1, some (.long x), none, a4] st σ Q := ru_lstore_n f_M_got_13 (Nat.le_of_ble_eq_true rfl) (ru_st2 (Nat.le_of_ble_eq_true rfl) (am_clr_c2 hc rfl) rfl) rfl
theorem f_M_got_14 : am_cd k_M_got 14 = some ((some .long), .iconst 0, (0, 0, 0, 0, 0, .null)) := rfl
theorem s_M_got_14 {ls : am_L} {st : List Value} {σ : am_H} {Q : Option Value → am_H → Prop} : ax k_M_got 14 ls st σ Q = ax k_M_got 15 ls (.int 0 :: st) σ Q := ru_iconst f_M_got_14 (by decide +kernel) rfl
theorem f_M_got_15 : am_cd k_M_got 15 = some ((some .long), .istore 4, (0, 0, 0, 0, 0, .null)) := rfl
theorem s_M_got_15 {a0 a1 a2 a3 a4 : Option Value} {st : List Value} {σ : am_H} {Q : Option Value → am_H → Prop} {x : Int32} (hc : am_c2 a3 = false) : ax k_M_got 15 [a0, a1, a2, a3, a4] (.int x :: st) σ Q = ax k_M_got 17 [a0, a1, a2, a3, some (.int x)] st σ Q := ru_istore f_M_got_15 (Nat.le_of_ble_eq_true rfl) (ru_st1 (Nat.le_of_ble_eq_true rfl) (am_clr_c2 hc rfl) rfl) rfl
theorem f_M_got_17 : am_cd k_M_got 17 = some ((some .long), .iload 4, (0, 0, 0, 0, 0, .null)) := rfl
theorem s_M_got_17 {a0 a1 a2 a3 : Option Value} {st : List Value} {σ : am_H} {Q : Option Value → am_H → Prop} {x : Int32} : ax k_M_got 17 [a0, a1, a2, a3, some (.int x)] st σ Q = ax k_M_got 19 [a0, a1, a2, a3, some (.int x)] (.int x :: st) σ Q := ru_loc (q := (_, _)) f_M_got_17 rfl rfl rfl
theorem f_M_got_19 : am_cd k_M_got 19 = some ((some .long), .aload_n 0, (0, 0, 0, 0, 0, .null)) := rfl
theorem s_M_got_19 {a1 a2 a3 a4 : Option Value} {st : List Value} {σ : am_H} {Q : Option Value → am_H → Prop} {x : Nat} : ax k_M_got 19 [some (.ref x), a1, a2, a3, a4] st σ Q = ax k_M_got 20 [some (.ref x), a1, a2, a3, a4] (.ref x :: st) σ Q := ru_loc (q := (_, _)) f_M_got_19 rfl rfl rfl
theorem f_M_got_20 : am_cd k_M_got 20 = some ((some .long), .getfield 293, (11, 45, 962, 0, 0, .null)) := rfl
theorem s_M_got_20 {ls : am_L} {st : List Value} {σ : am_H} {Q : Option Value → am_H → Prop} {a : Nat} : ax k_M_got 20 ls (.ref a :: st) σ Q = ax_f (am_fld σ a 11 45) (fun v => ax k_M_got 23 ls (v :: st) σ Q) := ru_getf f_M_got_20 rfl
theorem f_M_got_23 : am_cd k_M_got 23 = some ((some .long), .if_icmp .ge 111, (134, 0, 0, 0, 0, .null)) := rfl
theorem s_M_got_23 {ls : am_L} {st : List Value} {σ : am_H} {Q : Option Value → am_H → Prop} {x y : Int32} : ax k_M_got 23 ls (.int y :: .int x :: st) σ Q = (if x < y then ax k_M_got 26 ls st σ Q else ax k_M_got 134 ls st σ Q) := (ru_icmp f_M_got_23 rfl).trans (ru_i_ge _ _ _ _)
theorem f_M_got_26 : am_cd k_M_got 26 = some ((some .long), .aload_n 0, (0, 0, 0, 0, 0, .null)) := rfl
theorem s_M_got_26 {a1 a2 a3 a4 : Option Value} {st : List Value} {σ : am_H} {Q : Option Value → am_H → Prop} {x : Nat} : ax k_M_got 26 [some (.ref x), a1, a2, a3, a4] st σ Q = ax k_M_got 27 [some (.ref x), a1, a2, a3, a4] (.ref x :: st) σ Q := ru_loc (q := (_, _)) f_M_got_26 rfl rfl rfl
theorem f_M_got_27 : am_cd k_M_got 27 = some ((some .long), .getfield 136, (11, 56, 973, 0, 3, .null)) := rfl
theorem s_M_got_27 {ls : am_L} {st : List Value} {σ : am_H} {Q : Option Value → am_H → Prop} {a : Nat} : ax k_M_got 27 ls (.ref a :: st) σ Q = ax_f (am_fld σ a 11 56) (fun v => ax k_M_got 30 ls (v :: st) σ Q) := ru_getf f_M_got_27 rfl
theorem f_M_got_30 : am_cd k_M_got 30 = some ((some .long), .iload 4, (0, 0, 0, 0, 0, .null)) := rfl
theorem s_M_got_30 {a0 a1 a2 a3 : Option Value} {st : List Value} {σ : am_H} {Q : Option Value → am_H → Prop} {x : Int32} : ax k_M_got 30 [a0, a1, a2, a3, some (.int x)] st σ Q = ax k_M_got 32 [a0, a1, a2, a3, some (.int x)] (.int x :: st) σ Q := ru_loc (q := (_, _)) f_M_got_30 rfl rfl rfl
theorem f_M_got_32 : am_cd k_M_got 32 = some ((some .long), .baload, (0, 0, 0, 0, 0, .null)) := rfl
theorem s_M_got_32 {ls : am_L} {st : List Value} {σ : am_H} {Q : Option Value → am_H → Prop} {a : Nat} {j : Int32} : ax k_M_got 32 ls (.int j :: .ref a :: st) σ Q = ax_f (am_j σ a) (fun q => (q.1 = 1 ∨ q.1 = 2) ∧ am_ix j q.2.1 ∧ ax k_M_got 33 ls (.int (q.2.2 j.toNatClampNeg) :: st) σ Q) := rv_bald f_M_got_32 rfl
theorem f_M_got_33 : am_cd k_M_got 33 = some ((some .long), .ifCond .eq 6, (39, 0, 0, 0, 0, .null)) := rfl
theorem s_M_got_33 {ls : am_L} {st : List Value} {σ : am_H} {Q : Option Value → am_H → Prop} {x : Int32} : ax k_M_got 33 ls (.int x :: st) σ Q = (if x = 0 then ax k_M_got 39 ls st σ Q else ax k_M_got 36 ls st σ Q) := (ru_if f_M_got_33 rfl).trans (ru_i_eq _ _ _ _)
theorem f_M_got_36 : am_cd k_M_got 36 = some ((some .long), .goto 92, (128, 0, 0, 0, 0, .null)) := rfl
theorem s_M_got_36 {ls : am_L} {st : List Value} {σ : am_H} {Q : Option Value → am_H → Prop} : ax k_M_got 36 ls st σ Q = ax k_M_got 128 ls st σ Q := ru_goto f_M_got_36
theorem f_M_got_39 : am_cd k_M_got 39 = some ((some .long), .iload_n 1, (0, 0, 0, 0, 0, .null)) := rfl
theorem s_M_got_39 {a0 a2 a3 a4 : Option Value} {st : List Value} {σ : am_H} {Q : Option Value → am_H → Prop} {x : Int32} : ax k_M_got 39 [a0, some (.int x), a2, a3, a4] st σ Q = ax k_M_got 40 [a0, some (.int x), a2, a3, a4] (.int x :: st) σ Q := ru_loc (q := (_, _)) f_M_got_39 rfl rfl rfl
theorem f_M_got_40 : am_cd k_M_got 40 = some ((some .long), .iconst (-1), (0, 0, 0, 0, 0, .null)) := rfl
theorem s_M_got_40 {ls : am_L} {st : List Value} {σ : am_H} {Q : Option Value → am_H → Prop} : ax k_M_got 40 ls st σ Q = ax k_M_got 41 ls (.int (-1) :: st) σ Q := ru_iconst f_M_got_40 (by decide +kernel) rfl
theorem f_M_got_41 : am_cd k_M_got 41 = some ((some .long), .if_icmp .ne 33, (74, 0, 0, 0, 0, .null)) := rfl
theorem s_M_got_41 {ls : am_L} {st : List Value} {σ : am_H} {Q : Option Value → am_H → Prop} {x y : Int32} : ax k_M_got 41 ls (.int y :: .int x :: st) σ Q = (if x = y then ax k_M_got 44 ls st σ Q else ax k_M_got 74 ls st σ Q) := (ru_icmp f_M_got_41 rfl).trans (ru_i_ne _ _ _ _)
theorem f_M_got_44 : am_cd k_M_got 44 = some ((some .long), .lload_n 2, (0, 0, 0, 0, 0, .null)) := rfl
theorem s_M_got_44 {a0 a1 a3 a4 : Option Value} {st : List Value} {σ : am_H} {Q : Option Value → am_H → Prop} {x : Int64} : ax k_M_got 44 [a0, a1, some (.long x), a3, a4] st σ Q = ax k_M_got 45 [a0, a1, some (.long x), a3, a4] (.long x :: st) σ Q := ru_loc (q := (_, _)) f_M_got_44 rfl rfl rfl
theorem f_M_got_45 : am_cd k_M_got 45 = some ((some .long), .aload_n 0, (0, 0, 0, 0, 0, .null)) := rfl
theorem s_M_got_45 {a1 a2 a3 a4 : Option Value} {st : List Value} {σ : am_H} {Q : Option Value → am_H → Prop} {x : Nat} : ax k_M_got 45 [some (.ref x), a1, a2, a3, a4] st σ Q = ax k_M_got 46 [some (.ref x), a1, a2, a3, a4] (.ref x :: st) σ Q := ru_loc (q := (_, _)) f_M_got_45 rfl rfl rfl
theorem f_M_got_46 : am_cd k_M_got 46 = some ((some .long), .getfield 124, (11, 52, 969, 0, 3, .null)) := rfl
theorem s_M_got_46 {ls : am_L} {st : List Value} {σ : am_H} {Q : Option Value → am_H → Prop} {a : Nat} : ax k_M_got 46 ls (.ref a :: st) σ Q = ax_f (am_fld σ a 11 52) (fun v => ax k_M_got 49 ls (v :: st) σ Q) := ru_getf f_M_got_46 rfl
theorem f_M_got_49 : am_cd k_M_got 49 = some ((some .long), .iload 4, (0, 0, 0, 0, 0, .null)) := rfl
theorem s_M_got_49 {a0 a1 a2 a3 : Option Value} {st : List Value} {σ : am_H} {Q : Option Value → am_H → Prop} {x : Int32} : ax k_M_got 49 [a0, a1, a2, a3, some (.int x)] st σ Q = ax k_M_got 51 [a0, a1, a2, a3, some (.int x)] (.int x :: st) σ Q := ru_loc (q := (_, _)) f_M_got_49 rfl rfl rfl
theorem f_M_got_51 : am_cd k_M_got 51 = some ((some .long), .iaload, (0, 0, 0, 0, 0, .null)) := rfl
theorem s_M_got_51 {ls : am_L} {st : List Value} {σ : am_H} {Q : Option Value → am_H → Prop} {a : Nat} {j : Int32} : ax k_M_got 51 ls (.int j :: .ref a :: st) σ Q = ax_f (am_j σ a) (fun q => q.1 = 0 ∧ am_ix j q.2.1 ∧ ax k_M_got 52 ls (.int (q.2.2 j.toNatClampNeg) :: st) σ Q) := rv_iald f_M_got_51 rfl
theorem f_M_got_52 : am_cd k_M_got 52 = some ((some .long), .aload_n 0, (0, 0, 0, 0, 0, .null)) := rfl
theorem s_M_got_52 {a1 a2 a3 a4 : Option Value} {st : List Value} {σ : am_H} {Q : Option Value → am_H → Prop} {x : Nat} : ax k_M_got 52 [some (.ref x), a1, a2, a3, a4] st σ Q = ax k_M_got 53 [some (.ref x), a1, a2, a3, a4] (.ref x :: st) σ Q := ru_loc (q := (_, _)) f_M_got_52 rfl rfl rfl
theorem f_M_got_53 : am_cd k_M_got 53 = some ((some .long), .getfield 127, (11, 53, 970, 0, 3, .null)) := rfl
theorem s_M_got_53 {ls : am_L} {st : List Value} {σ : am_H} {Q : Option Value → am_H → Prop} {a : Nat} : ax k_M_got 53 ls (.ref a :: st) σ Q = ax_f (am_fld σ a 11 53) (fun v => ax k_M_got 56 ls (v :: st) σ Q) := ru_getf f_M_got_53 rfl
theorem f_M_got_56 : am_cd k_M_got 56 = some ((some .long), .iload 4, (0, 0, 0, 0, 0, .null)) := rfl
theorem s_M_got_56 {a0 a1 a2 a3 : Option Value} {st : List Value} {σ : am_H} {Q : Option Value → am_H → Prop} {x : Int32} : ax k_M_got 56 [a0, a1, a2, a3, some (.int x)] st σ Q = ax k_M_got 58 [a0, a1, a2, a3, some (.int x)] (.int x :: st) σ Q := ru_loc (q := (_, _)) f_M_got_56 rfl rfl rfl
theorem f_M_got_58 : am_cd k_M_got 58 = some ((some .long), .iaload, (0, 0, 0, 0, 0, .null)) := rfl
theorem s_M_got_58 {ls : am_L} {st : List Value} {σ : am_H} {Q : Option Value → am_H → Prop} {a : Nat} {j : Int32} : ax k_M_got 58 ls (.int j :: .ref a :: st) σ Q = ax_f (am_j σ a) (fun q => q.1 = 0 ∧ am_ix j q.2.1 ∧ ax k_M_got 59 ls (.int (q.2.2 j.toNatClampNeg) :: st) σ Q) := rv_iald f_M_got_58 rfl
theorem f_M_got_59 : am_cd k_M_got 59 = some ((some .long), .isub, (0, 0, 0, 0, 0, .null)) := rfl
theorem s_M_got_59 {ls : am_L} {st : List Value} {σ : am_H} {Q : Option Value → am_H → Prop} {x y : Int32} : ax k_M_got 59 ls (.int y :: .int x :: st) σ Q = ax k_M_got 60 ls (.int (x - y) :: st) σ Q := ru_pure f_M_got_59 rfl rfl
theorem f_M_got_60 : am_cd k_M_got 60 = some ((some .long), .aload_n 0, (0, 0, 0, 0, 0, .null)) := rfl
theorem s_M_got_60 {a1 a2 a3 a4 : Option Value} {st : List Value} {σ : am_H} {Q : Option Value → am_H → Prop} {x : Nat} : ax k_M_got 60 [some (.ref x), a1, a2, a3, a4] st σ Q = ax k_M_got 61 [some (.ref x), a1, a2, a3, a4] (.ref x :: st) σ Q := ru_loc (q := (_, _)) f_M_got_60 rfl rfl rfl
theorem f_M_got_61 : am_cd k_M_got 61 = some ((some .long), .getfield 130, (11, 54, 971, 0, 3, .null)) := rfl
theorem s_M_got_61 {ls : am_L} {st : List Value} {σ : am_H} {Q : Option Value → am_H → Prop} {a : Nat} : ax k_M_got 61 ls (.ref a :: st) σ Q = ax_f (am_fld σ a 11 54) (fun v => ax k_M_got 64 ls (v :: st) σ Q) := ru_getf f_M_got_61 rfl
theorem f_M_got_64 : am_cd k_M_got 64 = some ((some .long), .iload 4, (0, 0, 0, 0, 0, .null)) := rfl
theorem s_M_got_64 {a0 a1 a2 a3 : Option Value} {st : List Value} {σ : am_H} {Q : Option Value → am_H → Prop} {x : Int32} : ax k_M_got 64 [a0, a1, a2, a3, some (.int x)] st σ Q = ax k_M_got 66 [a0, a1, a2, a3, some (.int x)] (.int x :: st) σ Q := ru_loc (q := (_, _)) f_M_got_64 rfl rfl rfl
theorem f_M_got_66 : am_cd k_M_got 66 = some ((some .long), .iaload, (0, 0, 0, 0, 0, .null)) := rfl
theorem s_M_got_66 {ls : am_L} {st : List Value} {σ : am_H} {Q : Option Value → am_H → Prop} {a : Nat} {j : Int32} : ax k_M_got 66 ls (.int j :: .ref a :: st) σ Q = ax_f (am_j σ a) (fun q => q.1 = 0 ∧ am_ix j q.2.1 ∧ ax k_M_got 67 ls (.int (q.2.2 j.toNatClampNeg) :: st) σ Q) := rv_iald f_M_got_66 rfl
theorem f_M_got_67 : am_cd k_M_got 67 = some ((some .long), .isub, (0, 0, 0, 0, 0, .null)) := rfl
theorem s_M_got_67 {ls : am_L} {st : List Value} {σ : am_H} {Q : Option Value → am_H → Prop} {x y : Int32} : ax k_M_got 67 ls (.int y :: .int x :: st) σ Q = ax k_M_got 68 ls (.int (x - y) :: st) σ Q := ru_pure f_M_got_67 rfl rfl
theorem f_M_got_68 : am_cd k_M_got 68 = some ((some .long), .i2l, (0, 0, 0, 0, 0, .null)) := rfl
theorem s_M_got_68 {ls : am_L} {st : List Value} {σ : am_H} {Q : Option Value → am_H → Prop} {x : Int32} : ax k_M_got 68 ls (.int x :: st) σ Q = ax k_M_got 69 ls (.long x.toInt64 :: st) σ Q := ru_pure f_M_got_68 rfl rfl
theorem f_M_got_69 : am_cd k_M_got 69 = some ((some .long), .ladd, (0, 0, 0, 0, 0, .null)) := rfl
theorem s_M_got_69 {ls : am_L} {st : List Value} {σ : am_H} {Q : Option Value → am_H → Prop} {x y : Int64} : ax k_M_got 69 ls (.long y :: .long x :: st) σ Q = ax k_M_got 70 ls (.long (x + y) :: st) σ Q := ru_pure f_M_got_69 rfl rfl
theorem f_M_got_70 : am_cd k_M_got 70 = some ((some .long), .lstore_n 2, (0, 0, 0, 0, 0, .null)) := rfl
theorem s_M_got_70 {a0 a1 a2 a3 a4 : Option Value} {st : List Value} {σ : am_H} {Q : Option Value → am_H → Prop} {x : Int64} (hc : am_c2 a1 = false) : ax k_M_got 70 [a0, a1, a2, a3, a4] (.long x :: st) σ Q = ax k_M_got 71 [a0, a1, some (.long x), none, a4] st σ Q := ru_lstore_n f_M_got_70 (Nat.le_of_ble_eq_true rfl) (ru_st2 (Nat.le_of_ble_eq_true rfl) (am_clr_c2 hc rfl) rfl) rfl
theorem f_M_got_71 : am_cd k_M_got 71 = some ((some .long), .goto 57, (128, 0, 0, 0, 0, .null)) := rfl
theorem s_M_got_71 {ls : am_L} {st : List Value} {σ : am_H} {Q : Option Value → am_H → Prop} : ax k_M_got 71 ls st σ Q = ax k_M_got 128 ls st σ Q := ru_goto f_M_got_71
theorem f_M_got_74 : am_cd k_M_got 74 = some ((some .long), .lload_n 2, (0, 0, 0, 0, 0, .null)) := rfl
theorem s_M_got_74 {a0 a1 a3 a4 : Option Value} {st : List Value} {σ : am_H} {Q : Option Value → am_H → Prop} {x : Int64} : ax k_M_got 74 [a0, a1, some (.long x), a3, a4] st σ Q = ax k_M_got 75 [a0, a1, some (.long x), a3, a4] (.long x :: st) σ Q := ru_loc (q := (_, _)) f_M_got_74 rfl rfl rfl
theorem f_M_got_75 : am_cd k_M_got 75 = some ((some .long), .aload_n 0, (0, 0, 0, 0, 0, .null)) := rfl
theorem s_M_got_75 {a1 a2 a3 a4 : Option Value} {st : List Value} {σ : am_H} {Q : Option Value → am_H → Prop} {x : Nat} : ax k_M_got 75 [some (.ref x), a1, a2, a3, a4] st σ Q = ax k_M_got 76 [some (.ref x), a1, a2, a3, a4] (.ref x :: st) σ Q := ru_loc (q := (_, _)) f_M_got_75 rfl rfl rfl
theorem f_M_got_76 : am_cd k_M_got 76 = some ((some .long), .getfield 19, (11, 8, 925, 0, 3, .null)) := rfl
theorem s_M_got_76 {ls : am_L} {st : List Value} {σ : am_H} {Q : Option Value → am_H → Prop} {a : Nat} : ax k_M_got 76 ls (.ref a :: st) σ Q = ax_f (am_fld σ a 11 8) (fun v => ax k_M_got 79 ls (v :: st) σ Q) := ru_getf f_M_got_76 rfl
theorem f_M_got_79 : am_cd k_M_got 79 = some ((some .long), .aload_n 0, (0, 0, 0, 0, 0, .null)) := rfl
theorem s_M_got_79 {a1 a2 a3 a4 : Option Value} {st : List Value} {σ : am_H} {Q : Option Value → am_H → Prop} {x : Nat} : ax k_M_got 79 [some (.ref x), a1, a2, a3, a4] st σ Q = ax k_M_got 80 [some (.ref x), a1, a2, a3, a4] (.ref x :: st) σ Q := ru_loc (q := (_, _)) f_M_got_79 rfl rfl rfl
theorem f_M_got_80 : am_cd k_M_got 80 = some ((some .long), .getfield 106, (11, 46, 963, 0, 3, .null)) := rfl
theorem s_M_got_80 {ls : am_L} {st : List Value} {σ : am_H} {Q : Option Value → am_H → Prop} {a : Nat} : ax k_M_got 80 ls (.ref a :: st) σ Q = ax_f (am_fld σ a 11 46) (fun v => ax k_M_got 83 ls (v :: st) σ Q) := ru_getf f_M_got_80 rfl
theorem f_M_got_83 : am_cd k_M_got 83 = some ((some .long), .iload 4, (0, 0, 0, 0, 0, .null)) := rfl
theorem s_M_got_83 {a0 a1 a2 a3 : Option Value} {st : List Value} {σ : am_H} {Q : Option Value → am_H → Prop} {x : Int32} : ax k_M_got 83 [a0, a1, a2, a3, some (.int x)] st σ Q = ax k_M_got 85 [a0, a1, a2, a3, some (.int x)] (.int x :: st) σ Q := ru_loc (q := (_, _)) f_M_got_83 rfl rfl rfl
theorem f_M_got_85 : am_cd k_M_got 85 = some ((some .long), .iaload, (0, 0, 0, 0, 0, .null)) := rfl
theorem s_M_got_85 {ls : am_L} {st : List Value} {σ : am_H} {Q : Option Value → am_H → Prop} {a : Nat} {j : Int32} : ax k_M_got 85 ls (.int j :: .ref a :: st) σ Q = ax_f (am_j σ a) (fun q => q.1 = 0 ∧ am_ix j q.2.1 ∧ ax k_M_got 86 ls (.int (q.2.2 j.toNatClampNeg) :: st) σ Q) := rv_iald f_M_got_85 rfl
theorem f_M_got_86 : am_cd k_M_got 86 = some ((some .long), .iaload, (0, 0, 0, 0, 0, .null)) := rfl
theorem s_M_got_86 {ls : am_L} {st : List Value} {σ : am_H} {Q : Option Value → am_H → Prop} {a : Nat} {j : Int32} : ax k_M_got 86 ls (.int j :: .ref a :: st) σ Q = ax_f (am_j σ a) (fun q => q.1 = 0 ∧ am_ix j q.2.1 ∧ ax k_M_got 87 ls (.int (q.2.2 j.toNatClampNeg) :: st) σ Q) := rv_iald f_M_got_86 rfl
theorem f_M_got_87 : am_cd k_M_got 87 = some ((some .long), .iload_n 1, (0, 0, 0, 0, 0, .null)) := rfl
theorem s_M_got_87 {a0 a2 a3 a4 : Option Value} {st : List Value} {σ : am_H} {Q : Option Value → am_H → Prop} {x : Int32} : ax k_M_got 87 [a0, some (.int x), a2, a3, a4] st σ Q = ax k_M_got 88 [a0, some (.int x), a2, a3, a4] (.int x :: st) σ Q := ru_loc (q := (_, _)) f_M_got_87 rfl rfl rfl
theorem f_M_got_88 : am_cd k_M_got 88 = some ((some .long), .if_icmp .ne 13, (101, 0, 0, 0, 0, .null)) := rfl
theorem s_M_got_88 {ls : am_L} {st : List Value} {σ : am_H} {Q : Option Value → am_H → Prop} {x y : Int32} : ax k_M_got 88 ls (.int y :: .int x :: st) σ Q = (if x = y then ax k_M_got 91 ls st σ Q else ax k_M_got 101 ls st σ Q) := (ru_icmp f_M_got_88 rfl).trans (ru_i_ne _ _ _ _)
theorem f_M_got_91 : am_cd k_M_got 91 = some ((some .long), .aload_n 0, (0, 0, 0, 0, 0, .null)) := rfl
theorem s_M_got_91 {a1 a2 a3 a4 : Option Value} {st : List Value} {σ : am_H} {Q : Option Value → am_H → Prop} {x : Nat} : ax k_M_got 91 [some (.ref x), a1, a2, a3, a4] st σ Q = ax k_M_got 92 [some (.ref x), a1, a2, a3, a4] (.ref x :: st) σ Q := ru_loc (q := (_, _)) f_M_got_91 rfl rfl rfl
theorem f_M_got_92 : am_cd k_M_got 92 = some ((some .long), .getfield 127, (11, 53, 970, 0, 3, .null)) := rfl
theorem s_M_got_92 {ls : am_L} {st : List Value} {σ : am_H} {Q : Option Value → am_H → Prop} {a : Nat} : ax k_M_got 92 ls (.ref a :: st) σ Q = ax_f (am_fld σ a 11 53) (fun v => ax k_M_got 95 ls (v :: st) σ Q) := ru_getf f_M_got_92 rfl
theorem f_M_got_95 : am_cd k_M_got 95 = some ((some .long), .iload 4, (0, 0, 0, 0, 0, .null)) := rfl
theorem s_M_got_95 {a0 a1 a2 a3 : Option Value} {st : List Value} {σ : am_H} {Q : Option Value → am_H → Prop} {x : Int32} : ax k_M_got 95 [a0, a1, a2, a3, some (.int x)] st σ Q = ax k_M_got 97 [a0, a1, a2, a3, some (.int x)] (.int x :: st) σ Q := ru_loc (q := (_, _)) f_M_got_95 rfl rfl rfl
theorem f_M_got_97 : am_cd k_M_got 97 = some ((some .long), .iaload, (0, 0, 0, 0, 0, .null)) := rfl
theorem s_M_got_97 {ls : am_L} {st : List Value} {σ : am_H} {Q : Option Value → am_H → Prop} {a : Nat} {j : Int32} : ax k_M_got 97 ls (.int j :: .ref a :: st) σ Q = ax_f (am_j σ a) (fun q => q.1 = 0 ∧ am_ix j q.2.1 ∧ ax k_M_got 98 ls (.int (q.2.2 j.toNatClampNeg) :: st) σ Q) := rv_iald f_M_got_97 rfl
theorem f_M_got_98 : am_cd k_M_got 98 = some ((some .long), .goto 4, (102, 0, 0, 0, 0, .null)) := rfl
theorem s_M_got_98 {ls : am_L} {st : List Value} {σ : am_H} {Q : Option Value → am_H → Prop} : ax k_M_got 98 ls st σ Q = ax k_M_got 102 ls st σ Q := ru_goto f_M_got_98
theorem f_M_got_101 : am_cd k_M_got 101 = some ((some .long), .iconst 0, (0, 0, 0, 0, 0, .null)) := rfl
theorem s_M_got_101 {ls : am_L} {st : List Value} {σ : am_H} {Q : Option Value → am_H → Prop} : ax k_M_got 101 ls st σ Q = ax k_M_got 102 ls (.int 0 :: st) σ Q := ru_iconst f_M_got_101 (by decide +kernel) rfl
theorem f_M_got_102 : am_cd k_M_got 102 = some ((some .long), .aload_n 0, (0, 0, 0, 0, 0, .null)) := rfl
theorem s_M_got_102 {a1 a2 a3 a4 : Option Value} {st : List Value} {σ : am_H} {Q : Option Value → am_H → Prop} {x : Nat} : ax k_M_got 102 [some (.ref x), a1, a2, a3, a4] st σ Q = ax k_M_got 103 [some (.ref x), a1, a2, a3, a4] (.ref x :: st) σ Q := ru_loc (q := (_, _)) f_M_got_102 rfl rfl rfl
theorem f_M_got_103 : am_cd k_M_got 103 = some ((some .long), .getfield 133, (11, 55, 972, 0, 3, .null)) := rfl
theorem s_M_got_103 {ls : am_L} {st : List Value} {σ : am_H} {Q : Option Value → am_H → Prop} {a : Nat} : ax k_M_got 103 ls (.ref a :: st) σ Q = ax_f (am_fld σ a 11 55) (fun v => ax k_M_got 106 ls (v :: st) σ Q) := ru_getf f_M_got_103 rfl
theorem f_M_got_106 : am_cd k_M_got 106 = some ((some .long), .iload 4, (0, 0, 0, 0, 0, .null)) := rfl
theorem s_M_got_106 {a0 a1 a2 a3 : Option Value} {st : List Value} {σ : am_H} {Q : Option Value → am_H → Prop} {x : Int32} : ax k_M_got 106 [a0, a1, a2, a3, some (.int x)] st σ Q = ax k_M_got 108 [a0, a1, a2, a3, some (.int x)] (.int x :: st) σ Q := ru_loc (q := (_, _)) f_M_got_106 rfl rfl rfl
theorem f_M_got_108 : am_cd k_M_got 108 = some ((some .long), .iaload, (0, 0, 0, 0, 0, .null)) := rfl
theorem s_M_got_108 {ls : am_L} {st : List Value} {σ : am_H} {Q : Option Value → am_H → Prop} {a : Nat} {j : Int32} : ax k_M_got 108 ls (.int j :: .ref a :: st) σ Q = ax_f (am_j σ a) (fun q => q.1 = 0 ∧ am_ix j q.2.1 ∧ ax k_M_got 109 ls (.int (q.2.2 j.toNatClampNeg) :: st) σ Q) := rv_iald f_M_got_108 rfl
theorem f_M_got_109 : am_cd k_M_got 109 = some ((some .long), .iload_n 1, (0, 0, 0, 0, 0, .null)) := rfl
theorem s_M_got_109 {a0 a2 a3 a4 : Option Value} {st : List Value} {σ : am_H} {Q : Option Value → am_H → Prop} {x : Int32} : ax k_M_got 109 [a0, some (.int x), a2, a3, a4] st σ Q = ax k_M_got 110 [a0, some (.int x), a2, a3, a4] (.int x :: st) σ Q := ru_loc (q := (_, _)) f_M_got_109 rfl rfl rfl
theorem f_M_got_110 : am_cd k_M_got 110 = some ((some .long), .if_icmp .ne 13, (123, 0, 0, 0, 0, .null)) := rfl
theorem s_M_got_110 {ls : am_L} {st : List Value} {σ : am_H} {Q : Option Value → am_H → Prop} {x y : Int32} : ax k_M_got 110 ls (.int y :: .int x :: st) σ Q = (if x = y then ax k_M_got 113 ls st σ Q else ax k_M_got 123 ls st σ Q) := (ru_icmp f_M_got_110 rfl).trans (ru_i_ne _ _ _ _)
theorem f_M_got_113 : am_cd k_M_got 113 = some ((some .long), .aload_n 0, (0, 0, 0, 0, 0, .null)) := rfl
theorem s_M_got_113 {a1 a2 a3 a4 : Option Value} {st : List Value} {σ : am_H} {Q : Option Value → am_H → Prop} {x : Nat} : ax k_M_got 113 [some (.ref x), a1, a2, a3, a4] st σ Q = ax k_M_got 114 [some (.ref x), a1, a2, a3, a4] (.ref x :: st) σ Q := ru_loc (q := (_, _)) f_M_got_113 rfl rfl rfl
theorem f_M_got_114 : am_cd k_M_got 114 = some ((some .long), .getfield 130, (11, 54, 971, 0, 3, .null)) := rfl
theorem s_M_got_114 {ls : am_L} {st : List Value} {σ : am_H} {Q : Option Value → am_H → Prop} {a : Nat} : ax k_M_got 114 ls (.ref a :: st) σ Q = ax_f (am_fld σ a 11 54) (fun v => ax k_M_got 117 ls (v :: st) σ Q) := ru_getf f_M_got_114 rfl
theorem f_M_got_117 : am_cd k_M_got 117 = some ((some .long), .iload 4, (0, 0, 0, 0, 0, .null)) := rfl
theorem s_M_got_117 {a0 a1 a2 a3 : Option Value} {st : List Value} {σ : am_H} {Q : Option Value → am_H → Prop} {x : Int32} : ax k_M_got 117 [a0, a1, a2, a3, some (.int x)] st σ Q = ax k_M_got 119 [a0, a1, a2, a3, some (.int x)] (.int x :: st) σ Q := ru_loc (q := (_, _)) f_M_got_117 rfl rfl rfl
theorem f_M_got_119 : am_cd k_M_got 119 = some ((some .long), .iaload, (0, 0, 0, 0, 0, .null)) := rfl
theorem s_M_got_119 {ls : am_L} {st : List Value} {σ : am_H} {Q : Option Value → am_H → Prop} {a : Nat} {j : Int32} : ax k_M_got 119 ls (.int j :: .ref a :: st) σ Q = ax_f (am_j σ a) (fun q => q.1 = 0 ∧ am_ix j q.2.1 ∧ ax k_M_got 120 ls (.int (q.2.2 j.toNatClampNeg) :: st) σ Q) := rv_iald f_M_got_119 rfl
theorem f_M_got_120 : am_cd k_M_got 120 = some ((some .long), .goto 4, (124, 0, 0, 0, 0, .null)) := rfl
theorem s_M_got_120 {ls : am_L} {st : List Value} {σ : am_H} {Q : Option Value → am_H → Prop} : ax k_M_got 120 ls st σ Q = ax k_M_got 124 ls st σ Q := ru_goto f_M_got_120
theorem f_M_got_123 : am_cd k_M_got 123 = some ((some .long), .iconst 0, (0, 0, 0, 0, 0, .null)) := rfl
theorem s_M_got_123 {ls : am_L} {st : List Value} {σ : am_H} {Q : Option Value → am_H → Prop} : ax k_M_got 123 ls st σ Q = ax k_M_got 124 ls (.int 0 :: st) σ Q := ru_iconst f_M_got_123 (by decide +kernel) rfl
theorem f_M_got_124 : am_cd k_M_got 124 = some ((some .long), .iadd, (0, 0, 0, 0, 0, .null)) := rfl
theorem s_M_got_124 {ls : am_L} {st : List Value} {σ : am_H} {Q : Option Value → am_H → Prop} {x y : Int32} : ax k_M_got 124 ls (.int y :: .int x :: st) σ Q = ax k_M_got 125 ls (.int (x + y) :: st) σ Q := ru_pure f_M_got_124 rfl rfl
theorem f_M_got_125 : am_cd k_M_got 125 = some ((some .long), .i2l, (0, 0, 0, 0, 0, .null)) := rfl
theorem s_M_got_125 {ls : am_L} {st : List Value} {σ : am_H} {Q : Option Value → am_H → Prop} {x : Int32} : ax k_M_got 125 ls (.int x :: st) σ Q = ax k_M_got 126 ls (.long x.toInt64 :: st) σ Q := ru_pure f_M_got_125 rfl rfl
theorem f_M_got_126 : am_cd k_M_got 126 = some ((some .long), .ladd, (0, 0, 0, 0, 0, .null)) := rfl
theorem s_M_got_126 {ls : am_L} {st : List Value} {σ : am_H} {Q : Option Value → am_H → Prop} {x y : Int64} : ax k_M_got 126 ls (.long y :: .long x :: st) σ Q = ax k_M_got 127 ls (.long (x + y) :: st) σ Q := ru_pure f_M_got_126 rfl rfl
theorem f_M_got_127 : am_cd k_M_got 127 = some ((some .long), .lstore_n 2, (0, 0, 0, 0, 0, .null)) := rfl
theorem s_M_got_127 {a0 a1 a2 a3 a4 : Option Value} {st : List Value} {σ : am_H} {Q : Option Value → am_H → Prop} {x : Int64} (hc : am_c2 a1 = false) : ax k_M_got 127 [a0, a1, a2, a3, a4] (.long x :: st) σ Q = ax k_M_got 128 [a0, a1, some (.long x), none, a4] st σ Q := ru_lstore_n f_M_got_127 (Nat.le_of_ble_eq_true rfl) (ru_st2 (Nat.le_of_ble_eq_true rfl) (am_clr_c2 hc rfl) rfl) rfl
theorem f_M_got_128 : am_cd k_M_got 128 = some ((some .long), .iinc 4 1, (0, 0, 0, 0, 0, .null)) := rfl
theorem s_M_got_128 {a0 a1 a2 a3 : Option Value} {st : List Value} {σ : am_H} {Q : Option Value → am_H → Prop} {x : Int32} (hc : am_c2 a3 = false) : ax k_M_got 128 [a0, a1, a2, a3, some (.int x)] st σ Q = ax k_M_got 131 [a0, a1, a2, a3, some (.int (x + 1))] st σ Q := ru_iinc f_M_got_128 rfl (Nat.le_of_ble_eq_true rfl) (by decide +kernel) (ru_st1 (Nat.le_of_ble_eq_true rfl) (am_clr_c2 hc rfl) rfl) rfl
theorem f_M_got_131 : am_cd k_M_got 131 = some ((some .long), .goto (-114), (17, 0, 0, 0, 0, .null)) := rfl
theorem s_M_got_131 {ls : am_L} {st : List Value} {σ : am_H} {Q : Option Value → am_H → Prop} : ax k_M_got 131 ls st σ Q = ax k_M_got 17 ls st σ Q := ru_goto f_M_got_131
theorem f_M_got_134 : am_cd k_M_got 134 = some ((some .long), .lload_n 2, (0, 0, 0, 0, 0, .null)) := rfl
theorem s_M_got_134 {a0 a1 a3 a4 : Option Value} {st : List Value} {σ : am_H} {Q : Option Value → am_H → Prop} {x : Int64} : ax k_M_got 134 [a0, a1, some (.long x), a3, a4] st σ Q = ax k_M_got 135 [a0, a1, some (.long x), a3, a4] (.long x :: st) σ Q := ru_loc (q := (_, _)) f_M_got_134 rfl rfl rfl
theorem f_M_got_135 : am_cd k_M_got 135 = some ((some .long), .lreturn, (0, 0, 0, 0, 0, .null)) := rfl
theorem s_M_got_135 {ls : am_L} {σ : am_H} {Q : Option Value → am_H → Prop} {v : Int64} : ax k_M_got 135 ls ([.long v]) σ Q = Q (some (.long v)) σ := ru_ret f_M_got_135 rfl rfl rfl rfl rfl rfl rfl
theorem f_M_print_0 : am_cd k_M_print 0 = some ((some .int), .aload_n 0, (0, 0, 0, 0, 0, .null)) := rfl
theorem s_M_print_0 {a1 a2 a3 a4 a5 a6 : Option Value} {st : List Value} {σ : am_H} {Q : Option Value → am_H → Prop} {x : Nat} : ax k_M_print 0 [some (.ref x), a1, a2, a3, a4, a5, a6] st σ Q = ax k_M_print 1 [some (.ref x), a1, a2, a3, a4, a5, a6] (.ref x :: st) σ Q := ru_loc (q := (_, _)) f_M_print_0 rfl rfl rfl
theorem f_M_print_1 : am_cd k_M_print 1 = some ((some .int), .iload_n 1, (0, 0, 0, 0, 0, .null)) := rfl
theorem s_M_print_1 {a0 a2 a3 a4 a5 a6 : Option Value} {st : List Value} {σ : am_H} {Q : Option Value → am_H → Prop} {x : Int32} : ax k_M_print 1 [a0, some (.int x), a2, a3, a4, a5, a6] st σ Q = ax k_M_print 2 [a0, some (.int x), a2, a3, a4, a5, a6] (.int x :: st) σ Q := ru_loc (q := (_, _)) f_M_print_1 rfl rfl rfl
theorem f_M_print_2 : am_cd k_M_print 2 = some ((some .int), .iload_n 2, (0, 0, 0, 0, 0, .null)) := rfl
theorem s_M_print_2 {a0 a1 a3 a4 a5 a6 : Option Value} {st : List Value} {σ : am_H} {Q : Option Value → am_H → Prop} {x : Int32} : ax k_M_print 2 [a0, a1, some (.int x), a3, a4, a5, a6] st σ Q = ax k_M_print 3 [a0, a1, some (.int x), a3, a4, a5, a6] (.int x :: st) σ Q := ru_loc (q := (_, _)) f_M_print_2 rfl rfl rfl
theorem f_M_print_3 : am_cd k_M_print 3 = some ((some .int), .iload_n 3, (0, 0, 0, 0, 0, .null)) := rfl
theorem s_M_print_3 {a0 a1 a2 a4 a5 a6 : Option Value} {st : List Value} {σ : am_H} {Q : Option Value → am_H → Prop} {x : Int32} : ax k_M_print 3 [a0, a1, a2, some (.int x), a4, a5, a6] st σ Q = ax k_M_print 4 [a0, a1, a2, some (.int x), a4, a5, a6] (.int x :: st) σ Q := ru_loc (q := (_, _)) f_M_print_3 rfl rfl rfl
theorem f_M_print_4 : am_cd k_M_print 4 = some ((some .int), .iload 4, (0, 0, 0, 0, 0, .null)) := rfl
theorem s_M_print_4 {a0 a1 a2 a3 a5 a6 : Option Value} {st : List Value} {σ : am_H} {Q : Option Value → am_H → Prop} {x : Int32} : ax k_M_print 4 [a0, a1, a2, a3, some (.int x), a5, a6] st σ Q = ax k_M_print 6 [a0, a1, a2, a3, some (.int x), a5, a6] (.int x :: st) σ Q := ru_loc (q := (_, _)) f_M_print_4 rfl rfl rfl
theorem f_M_print_6 : am_cd k_M_print 6 = some ((some .int), .invokevirtual 296, (160, 4, 1288, 0, 11, .null)) := rfl
theorem s_M_print_6 {ls : am_L} {st : List Value} {σ : am_H} {Q : Option Value → am_H → Prop} {p0 : Int32} {p1 : Int32} {p2 : Int32} {p3 : Int32} {b : Nat} (hi : am_is σ b 11) (h8 : am_s8 st) : ax k_M_print 6 ls (.int p3 :: .int p2 :: .int p1 :: .int p0 :: .ref b :: st) σ Q = ax k_M_isUse 0 [some (.ref b), some (.int p0), some (.int p1), some (.int p2), some (.int p3)] [] σ (ax_k k_M_print 9 ls st Q) := ru_vir (M' := rk_M_isUse) f_M_print_6 rfl rfl rfl rfl hi h8 rfl rfl rfl rfl rfl
theorem f_M_print_9 : am_cd k_M_print 9 = some ((some .int), .ifCond .eq 12, (21, 0, 0, 0, 0, .null)) := rfl
theorem s_M_print_9 {ls : am_L} {st : List Value} {σ : am_H} {Q : Option Value → am_H → Prop} {x : Int32} : ax k_M_print 9 ls (.int x :: st) σ Q = (if x = 0 then ax k_M_print 21 ls st σ Q else ax k_M_print 12 ls st σ Q) := (ru_if f_M_print_9 rfl).trans (ru_i_eq _ _ _ _)
theorem f_M_print_12 : am_cd k_M_print 12 = some ((some .int), .aload_n 0, (0, 0, 0, 0, 0, .null)) := rfl
theorem s_M_print_12 {a1 a2 a3 a4 a5 a6 : Option Value} {st : List Value} {σ : am_H} {Q : Option Value → am_H → Prop} {x : Nat} : ax k_M_print 12 [some (.ref x), a1, a2, a3, a4, a5, a6] st σ Q = ax k_M_print 13 [some (.ref x), a1, a2, a3, a4, a5, a6] (.ref x :: st) σ Q := ru_loc (q := (_, _)) f_M_print_12 rfl rfl rfl
theorem f_M_print_13 : am_cd k_M_print 13 = some ((some .int), .getfield 309, (11, 60, 977, 0, 0, .null)) := rfl
theorem s_M_print_13 {ls : am_L} {st : List Value} {σ : am_H} {Q : Option Value → am_H → Prop} {a : Nat} : ax k_M_print 13 ls (.ref a :: st) σ Q = ax_f (am_fld σ a 11 60) (fun v => ax k_M_print 16 ls (v :: st) σ Q) := ru_getf f_M_print_13 rfl
theorem f_M_print_16 : am_cd k_M_print 16 = some ((some .int), .bipush 60, (0, 0, 0, 0, 0, .null)) := rfl
theorem s_M_print_16 {ls : am_L} {st : List Value} {σ : am_H} {Q : Option Value → am_H → Prop} : ax k_M_print 16 ls st σ Q = ax k_M_print 18 ls (.int 60 :: st) σ Q := ru_bipush f_M_print_16 (by decide +kernel) rfl
theorem f_M_print_18 : am_cd k_M_print 18 = some ((some .int), .if_icmp .ne 5, (23, 0, 0, 0, 0, .null)) := rfl
theorem s_M_print_18 {ls : am_L} {st : List Value} {σ : am_H} {Q : Option Value → am_H → Prop} {x y : Int32} : ax k_M_print 18 ls (.int y :: .int x :: st) σ Q = (if x = y then ax k_M_print 21 ls st σ Q else ax k_M_print 23 ls st σ Q) := (ru_icmp f_M_print_18 rfl).trans (ru_i_ne _ _ _ _)
theorem f_M_print_21 : am_cd k_M_print 21 = some ((some .int), .iconst (-1), (0, 0, 0, 0, 0, .null)) := rfl
theorem s_M_print_21 {ls : am_L} {st : List Value} {σ : am_H} {Q : Option Value → am_H → Prop} : ax k_M_print 21 ls st σ Q = ax k_M_print 22 ls (.int (-1) :: st) σ Q := ru_iconst f_M_print_21 (by decide +kernel) rfl
theorem f_M_print_22 : am_cd k_M_print 22 = some ((some .int), .ireturn, (0, 0, 0, 0, 0, .null)) := rfl
theorem s_M_print_22 {ls : am_L} {σ : am_H} {Q : Option Value → am_H → Prop} {v : Int32} : ax k_M_print 22 ls [.int v] σ Q = Q (some (.int v)) σ := ru_iretI f_M_print_22
theorem f_M_print_23 : am_cd k_M_print 23 = some ((some .int), .aload_n 0, (0, 0, 0, 0, 0, .null)) := rfl
theorem s_M_print_23 {a1 a2 a3 a4 a5 a6 : Option Value} {st : List Value} {σ : am_H} {Q : Option Value → am_H → Prop} {x : Nat} : ax k_M_print 23 [some (.ref x), a1, a2, a3, a4, a5, a6] st σ Q = ax k_M_print 24 [some (.ref x), a1, a2, a3, a4, a5, a6] (.ref x :: st) σ Q := ru_loc (q := (_, _)) f_M_print_23 rfl rfl rfl
theorem f_M_print_24 : am_cd k_M_print 24 = some ((some .int), .iload_n 1, (0, 0, 0, 0, 0, .null)) := rfl
theorem s_M_print_24 {a0 a2 a3 a4 a5 a6 : Option Value} {st : List Value} {σ : am_H} {Q : Option Value → am_H → Prop} {x : Int32} : ax k_M_print 24 [a0, some (.int x), a2, a3, a4, a5, a6] st σ Q = ax k_M_print 25 [a0, some (.int x), a2, a3, a4, a5, a6] (.int x :: st) σ Q := ru_loc (q := (_, _)) f_M_print_24 rfl rfl rfl
theorem f_M_print_25 : am_cd k_M_print 25 = some ((some .int), .invokevirtual 211, (135, 1, 1203, 0, 11, .null)) := rfl
theorem s_M_print_25 {ls : am_L} {st : List Value} {σ : am_H} {Q : Option Value → am_H → Prop} {p0 : Int32} {b : Nat} (hi : am_is σ b 11) (h8 : am_s8 st) : ax k_M_print 25 ls (.int p0 :: .ref b :: st) σ Q = ax k_M_spread 0 [some (.ref b), some (.int p0), none, none, none] [] σ (ax_k k_M_print 28 ls st Q) := ru_vir (M' := rk_M_spread) f_M_print_25 rfl rfl rfl rfl hi h8 rfl rfl rfl rfl rfl
theorem f_M_print_28 : am_cd k_M_print 28 = some ((some .int), .iconst (-1), (0, 0, 0, 0, 0, .null)) := rfl
theorem s_M_print_28 {ls : am_L} {st : List Value} {σ : am_H} {Q : Option Value → am_H → Prop} : ax k_M_print 28 ls st σ Q = ax k_M_print 29 ls (.int (-1) :: st) σ Q := ru_iconst f_M_print_28 (by decide +kernel) rfl
theorem f_M_print_29 : am_cd k_M_print 29 = some ((some .int), .istore 5, (0, 0, 0, 0, 0, .null)) := rfl
theorem s_M_print_29 {a0 a1 a2 a3 a4 a5 a6 : Option Value} {st : List Value} {σ : am_H} {Q : Option Value → am_H → Prop} {x : Int32} (hc : am_c2 a4 = false) : ax k_M_print 29 [a0, a1, a2, a3, a4, a5, a6] (.int x :: st) σ Q = ax k_M_print 31 [a0, a1, a2, a3, a4, some (.int x), a6] st σ Q := ru_istore f_M_print_29 (Nat.le_of_ble_eq_true rfl) (ru_st1 (Nat.le_of_ble_eq_true rfl) (am_clr_c2 hc rfl) rfl) rfl
theorem f_M_print_31 : am_cd k_M_print 31 = some ((some .int), .iconst 0, (0, 0, 0, 0, 0, .null)) := rfl
theorem s_M_print_31 {ls : am_L} {st : List Value} {σ : am_H} {Q : Option Value → am_H → Prop} : ax k_M_print 31 ls st σ Q = ax k_M_print 32 ls (.int 0 :: st) σ Q := ru_iconst f_M_print_31 (by decide +kernel) rfl
theorem f_M_print_32 : am_cd k_M_print 32 = some ((some .int), .istore 6, (0, 0, 0, 0, 0, .null)) := rfl
theorem s_M_print_32 {a0 a1 a2 a3 a4 a5 a6 : Option Value} {st : List Value} {σ : am_H} {Q : Option Value → am_H → Prop} {x : Int32} (hc : am_c2 a5 = false) : ax k_M_print 32 [a0, a1, a2, a3, a4, a5, a6] (.int x :: st) σ Q = ax k_M_print 34 [a0, a1, a2, a3, a4, a5, some (.int x)] st σ Q := ru_istore f_M_print_32 (Nat.le_of_ble_eq_true rfl) (ru_st1 (Nat.le_of_ble_eq_true rfl) (am_clr_c2 hc rfl) rfl) rfl
theorem f_M_print_34 : am_cd k_M_print 34 = some ((some .int), .iload 6, (0, 0, 0, 0, 0, .null)) := rfl
theorem s_M_print_34 {a0 a1 a2 a3 a4 a5 : Option Value} {st : List Value} {σ : am_H} {Q : Option Value → am_H → Prop} {x : Int32} : ax k_M_print 34 [a0, a1, a2, a3, a4, a5, some (.int x)] st σ Q = ax k_M_print 36 [a0, a1, a2, a3, a4, a5, some (.int x)] (.int x :: st) σ Q := ru_loc (q := (_, _)) f_M_print_34 rfl rfl rfl
theorem f_M_print_36 : am_cd k_M_print 36 = some ((some .int), .aload_n 0, (0, 0, 0, 0, 0, .null)) := rfl
theorem s_M_print_36 {a1 a2 a3 a4 a5 a6 : Option Value} {st : List Value} {σ : am_H} {Q : Option Value → am_H → Prop} {x : Nat} : ax k_M_print 36 [some (.ref x), a1, a2, a3, a4, a5, a6] st σ Q = ax k_M_print 37 [some (.ref x), a1, a2, a3, a4, a5, a6] (.ref x :: st) σ Q := ru_loc (q := (_, _)) f_M_print_36 rfl rfl rfl
theorem f_M_print_37 : am_cd k_M_print 37 = some ((some .int), .getfield 293, (11, 45, 962, 0, 0, .null)) := rfl
theorem s_M_print_37 {ls : am_L} {st : List Value} {σ : am_H} {Q : Option Value → am_H → Prop} {a : Nat} : ax k_M_print 37 ls (.ref a :: st) σ Q = ax_f (am_fld σ a 11 45) (fun v => ax k_M_print 40 ls (v :: st) σ Q) := ru_getf f_M_print_37 rfl
theorem f_M_print_40 : am_cd k_M_print 40 = some ((some .int), .if_icmp .ge 87, (127, 0, 0, 0, 0, .null)) := rfl
theorem s_M_print_40 {ls : am_L} {st : List Value} {σ : am_H} {Q : Option Value → am_H → Prop} {x y : Int32} : ax k_M_print 40 ls (.int y :: .int x :: st) σ Q = (if x < y then ax k_M_print 43 ls st σ Q else ax k_M_print 127 ls st σ Q) := (ru_icmp f_M_print_40 rfl).trans (ru_i_ge _ _ _ _)
theorem f_M_print_43 : am_cd k_M_print 43 = some ((some .int), .iload 5, (0, 0, 0, 0, 0, .null)) := rfl
theorem s_M_print_43 {a0 a1 a2 a3 a4 a6 : Option Value} {st : List Value} {σ : am_H} {Q : Option Value → am_H → Prop} {x : Int32} : ax k_M_print 43 [a0, a1, a2, a3, a4, some (.int x), a6] st σ Q = ax k_M_print 45 [a0, a1, a2, a3, a4, some (.int x), a6] (.int x :: st) σ Q := ru_loc (q := (_, _)) f_M_print_43 rfl rfl rfl
theorem f_M_print_45 : am_cd k_M_print 45 = some ((some .int), .ifCond .ge 82, (127, 0, 0, 0, 0, .null)) := rfl
theorem s_M_print_45 {ls : am_L} {st : List Value} {σ : am_H} {Q : Option Value → am_H → Prop} {x : Int32} : ax k_M_print 45 ls (.int x :: st) σ Q = (if x < 0 then ax k_M_print 48 ls st σ Q else ax k_M_print 127 ls st σ Q) := (ru_if f_M_print_45 rfl).trans (ru_i_ge _ _ _ _)
theorem f_M_print_48 : am_cd k_M_print 48 = some ((some .int), .aload_n 0, (0, 0, 0, 0, 0, .null)) := rfl
theorem s_M_print_48 {a1 a2 a3 a4 a5 a6 : Option Value} {st : List Value} {σ : am_H} {Q : Option Value → am_H → Prop} {x : Nat} : ax k_M_print 48 [some (.ref x), a1, a2, a3, a4, a5, a6] st σ Q = ax k_M_print 49 [some (.ref x), a1, a2, a3, a4, a5, a6] (.ref x :: st) σ Q := ru_loc (q := (_, _)) f_M_print_48 rfl rfl rfl
theorem f_M_print_49 : am_cd k_M_print 49 = some ((some .int), .getfield 136, (11, 56, 973, 0, 3, .null)) := rfl
theorem s_M_print_49 {ls : am_L} {st : List Value} {σ : am_H} {Q : Option Value → am_H → Prop} {a : Nat} : ax k_M_print 49 ls (.ref a :: st) σ Q = ax_f (am_fld σ a 11 56) (fun v => ax k_M_print 52 ls (v :: st) σ Q) := ru_getf f_M_print_49 rfl
theorem f_M_print_52 : am_cd k_M_print 52 = some ((some .int), .iload 6, (0, 0, 0, 0, 0, .null)) := rfl
theorem s_M_print_52 {a0 a1 a2 a3 a4 a5 : Option Value} {st : List Value} {σ : am_H} {Q : Option Value → am_H → Prop} {x : Int32} : ax k_M_print 52 [a0, a1, a2, a3, a4, a5, some (.int x)] st σ Q = ax k_M_print 54 [a0, a1, a2, a3, a4, a5, some (.int x)] (.int x :: st) σ Q := ru_loc (q := (_, _)) f_M_print_52 rfl rfl rfl
theorem f_M_print_54 : am_cd k_M_print 54 = some ((some .int), .baload, (0, 0, 0, 0, 0, .null)) := rfl
theorem s_M_print_54 {ls : am_L} {st : List Value} {σ : am_H} {Q : Option Value → am_H → Prop} {a : Nat} {j : Int32} : ax k_M_print 54 ls (.int j :: .ref a :: st) σ Q = ax_f (am_j σ a) (fun q => (q.1 = 1 ∨ q.1 = 2) ∧ am_ix j q.2.1 ∧ ax k_M_print 55 ls (.int (q.2.2 j.toNatClampNeg) :: st) σ Q) := rv_bald f_M_print_54 rfl
theorem f_M_print_55 : am_cd k_M_print 55 = some ((some .int), .ifCond .ne 66, (121, 0, 0, 0, 0, .null)) := rfl
theorem s_M_print_55 {ls : am_L} {st : List Value} {σ : am_H} {Q : Option Value → am_H → Prop} {x : Int32} : ax k_M_print 55 ls (.int x :: st) σ Q = (if x = 0 then ax k_M_print 58 ls st σ Q else ax k_M_print 121 ls st σ Q) := (ru_if f_M_print_55 rfl).trans (ru_i_ne _ _ _ _)
theorem f_M_print_58 : am_cd k_M_print 58 = some ((some .int), .aload_n 0, (0, 0, 0, 0, 0, .null)) := rfl
theorem s_M_print_58 {a1 a2 a3 a4 a5 a6 : Option Value} {st : List Value} {σ : am_H} {Q : Option Value → am_H → Prop} {x : Nat} : ax k_M_print 58 [some (.ref x), a1, a2, a3, a4, a5, a6] st σ Q = ax k_M_print 59 [some (.ref x), a1, a2, a3, a4, a5, a6] (.ref x :: st) σ Q := ru_loc (q := (_, _)) f_M_print_58 rfl rfl rfl
theorem f_M_print_59 : am_cd k_M_print 59 = some ((some .int), .getfield 139, (11, 57, 974, 0, 3, .null)) := rfl
theorem s_M_print_59 {ls : am_L} {st : List Value} {σ : am_H} {Q : Option Value → am_H → Prop} {a : Nat} : ax k_M_print 59 ls (.ref a :: st) σ Q = ax_f (am_fld σ a 11 57) (fun v => ax k_M_print 62 ls (v :: st) σ Q) := ru_getf f_M_print_59 rfl
theorem f_M_print_62 : am_cd k_M_print 62 = some ((some .int), .iload 6, (0, 0, 0, 0, 0, .null)) := rfl
theorem s_M_print_62 {a0 a1 a2 a3 a4 a5 : Option Value} {st : List Value} {σ : am_H} {Q : Option Value → am_H → Prop} {x : Int32} : ax k_M_print 62 [a0, a1, a2, a3, a4, a5, some (.int x)] st σ Q = ax k_M_print 64 [a0, a1, a2, a3, a4, a5, some (.int x)] (.int x :: st) σ Q := ru_loc (q := (_, _)) f_M_print_62 rfl rfl rfl
theorem f_M_print_64 : am_cd k_M_print 64 = some ((some .int), .iaload, (0, 0, 0, 0, 0, .null)) := rfl
theorem s_M_print_64 {ls : am_L} {st : List Value} {σ : am_H} {Q : Option Value → am_H → Prop} {a : Nat} {j : Int32} : ax k_M_print 64 ls (.int j :: .ref a :: st) σ Q = ax_f (am_j σ a) (fun q => q.1 = 0 ∧ am_ix j q.2.1 ∧ ax k_M_print 65 ls (.int (q.2.2 j.toNatClampNeg) :: st) σ Q) := rv_iald f_M_print_64 rfl
theorem f_M_print_65 : am_cd k_M_print 65 = some ((some .int), .ifCond .ge 56, (121, 0, 0, 0, 0, .null)) := rfl
theorem s_M_print_65 {ls : am_L} {st : List Value} {σ : am_H} {Q : Option Value → am_H → Prop} {x : Int32} : ax k_M_print 65 ls (.int x :: st) σ Q = (if x < 0 then ax k_M_print 68 ls st σ Q else ax k_M_print 121 ls st σ Q) := (ru_if f_M_print_65 rfl).trans (ru_i_ge _ _ _ _)
theorem f_M_print_68 : am_cd k_M_print 68 = some ((some .int), .aload_n 0, (0, 0, 0, 0, 0, .null)) := rfl
theorem s_M_print_68 {a1 a2 a3 a4 a5 a6 : Option Value} {st : List Value} {σ : am_H} {Q : Option Value → am_H → Prop} {x : Nat} : ax k_M_print 68 [some (.ref x), a1, a2, a3, a4, a5, a6] st σ Q = ax k_M_print 69 [some (.ref x), a1, a2, a3, a4, a5, a6] (.ref x :: st) σ Q := ru_loc (q := (_, _)) f_M_print_68 rfl rfl rfl
theorem f_M_print_69 : am_cd k_M_print 69 = some ((some .int), .getfield 69, (11, 27, 944, 0, 3, .null)) := rfl
theorem s_M_print_69 {ls : am_L} {st : List Value} {σ : am_H} {Q : Option Value → am_H → Prop} {a : Nat} : ax k_M_print 69 ls (.ref a :: st) σ Q = ax_f (am_fld σ a 11 27) (fun v => ax k_M_print 72 ls (v :: st) σ Q) := ru_getf f_M_print_69 rfl
theorem f_M_print_72 : am_cd k_M_print 72 = some ((some .int), .aload_n 0, (0, 0, 0, 0, 0, .null)) := rfl
theorem s_M_print_72 {a1 a2 a3 a4 a5 a6 : Option Value} {st : List Value} {σ : am_H} {Q : Option Value → am_H → Prop} {x : Nat} : ax k_M_print 72 [some (.ref x), a1, a2, a3, a4, a5, a6] st σ Q = ax k_M_print 73 [some (.ref x), a1, a2, a3, a4, a5, a6] (.ref x :: st) σ Q := ru_loc (q := (_, _)) f_M_print_72 rfl rfl rfl
theorem f_M_print_73 : am_cd k_M_print 73 = some ((some .int), .getfield 106, (11, 46, 963, 0, 3, .null)) := rfl
theorem s_M_print_73 {ls : am_L} {st : List Value} {σ : am_H} {Q : Option Value → am_H → Prop} {a : Nat} : ax k_M_print 73 ls (.ref a :: st) σ Q = ax_f (am_fld σ a 11 46) (fun v => ax k_M_print 76 ls (v :: st) σ Q) := ru_getf f_M_print_73 rfl
theorem f_M_print_76 : am_cd k_M_print 76 = some ((some .int), .iload 6, (0, 0, 0, 0, 0, .null)) := rfl
theorem s_M_print_76 {a0 a1 a2 a3 a4 a5 : Option Value} {st : List Value} {σ : am_H} {Q : Option Value → am_H → Prop} {x : Int32} : ax k_M_print 76 [a0, a1, a2, a3, a4, a5, some (.int x)] st σ Q = ax k_M_print 78 [a0, a1, a2, a3, a4, a5, some (.int x)] (.int x :: st) σ Q := ru_loc (q := (_, _)) f_M_print_76 rfl rfl rfl
theorem f_M_print_78 : am_cd k_M_print 78 = some ((some .int), .iaload, (0, 0, 0, 0, 0, .null)) := rfl
theorem s_M_print_78 {ls : am_L} {st : List Value} {σ : am_H} {Q : Option Value → am_H → Prop} {a : Nat} {j : Int32} : ax k_M_print 78 ls (.int j :: .ref a :: st) σ Q = ax_f (am_j σ a) (fun q => q.1 = 0 ∧ am_ix j q.2.1 ∧ ax k_M_print 79 ls (.int (q.2.2 j.toNatClampNeg) :: st) σ Q) := rv_iald f_M_print_78 rfl
theorem f_M_print_79 : am_cd k_M_print 79 = some ((some .int), .baload, (0, 0, 0, 0, 0, .null)) := rfl
theorem s_M_print_79 {ls : am_L} {st : List Value} {σ : am_H} {Q : Option Value → am_H → Prop} {a : Nat} {j : Int32} : ax k_M_print 79 ls (.int j :: .ref a :: st) σ Q = ax_f (am_j σ a) (fun q => (q.1 = 1 ∨ q.1 = 2) ∧ am_ix j q.2.1 ∧ ax k_M_print 80 ls (.int (q.2.2 j.toNatClampNeg) :: st) σ Q) := rv_bald f_M_print_79 rfl
theorem f_M_print_80 : am_cd k_M_print 80 = some ((some .int), .ifCond .eq 41, (121, 0, 0, 0, 0, .null)) := rfl
theorem s_M_print_80 {ls : am_L} {st : List Value} {σ : am_H} {Q : Option Value → am_H → Prop} {x : Int32} : ax k_M_print 80 ls (.int x :: st) σ Q = (if x = 0 then ax k_M_print 121 ls st σ Q else ax k_M_print 83 ls st σ Q) := (ru_if f_M_print_80 rfl).trans (ru_i_eq _ _ _ _)
theorem f_M_print_83 : am_cd k_M_print 83 = some ((some .int), .aload_n 0, (0, 0, 0, 0, 0, .null)) := rfl
theorem s_M_print_83 {a1 a2 a3 a4 a5 a6 : Option Value} {st : List Value} {σ : am_H} {Q : Option Value → am_H → Prop} {x : Nat} : ax k_M_print 83 [some (.ref x), a1, a2, a3, a4, a5, a6] st σ Q = ax k_M_print 84 [some (.ref x), a1, a2, a3, a4, a5, a6] (.ref x :: st) σ Q := ru_loc (q := (_, _)) f_M_print_83 rfl rfl rfl
theorem f_M_print_84 : am_cd k_M_print 84 = some ((some .int), .getfield 109, (11, 47, 964, 0, 3, .null)) := rfl
theorem s_M_print_84 {ls : am_L} {st : List Value} {σ : am_H} {Q : Option Value → am_H → Prop} {a : Nat} : ax k_M_print 84 ls (.ref a :: st) σ Q = ax_f (am_fld σ a 11 47) (fun v => ax k_M_print 87 ls (v :: st) σ Q) := ru_getf f_M_print_84 rfl
theorem f_M_print_87 : am_cd k_M_print 87 = some ((some .int), .iload 6, (0, 0, 0, 0, 0, .null)) := rfl
theorem s_M_print_87 {a0 a1 a2 a3 a4 a5 : Option Value} {st : List Value} {σ : am_H} {Q : Option Value → am_H → Prop} {x : Int32} : ax k_M_print 87 [a0, a1, a2, a3, a4, a5, some (.int x)] st σ Q = ax k_M_print 89 [a0, a1, a2, a3, a4, a5, some (.int x)] (.int x :: st) σ Q := ru_loc (q := (_, _)) f_M_print_87 rfl rfl rfl
theorem f_M_print_89 : am_cd k_M_print 89 = some ((some .int), .iaload, (0, 0, 0, 0, 0, .null)) := rfl
theorem s_M_print_89 {ls : am_L} {st : List Value} {σ : am_H} {Q : Option Value → am_H → Prop} {a : Nat} {j : Int32} : ax k_M_print 89 ls (.int j :: .ref a :: st) σ Q = ax_f (am_j σ a) (fun q => q.1 = 0 ∧ am_ix j q.2.1 ∧ ax k_M_print 90 ls (.int (q.2.2 j.toNatClampNeg) :: st) σ Q) := rv_iald f_M_print_89 rfl
theorem f_M_print_90 : am_cd k_M_print 90 = some ((some .int), .iload_n 2, (0, 0, 0, 0, 0, .null)) := rfl
theorem s_M_print_90 {a0 a1 a3 a4 a5 a6 : Option Value} {st : List Value} {σ : am_H} {Q : Option Value → am_H → Prop} {x : Int32} : ax k_M_print 90 [a0, a1, some (.int x), a3, a4, a5, a6] st σ Q = ax k_M_print 91 [a0, a1, some (.int x), a3, a4, a5, a6] (.int x :: st) σ Q := ru_loc (q := (_, _)) f_M_print_90 rfl rfl rfl
theorem f_M_print_91 : am_cd k_M_print 91 = some ((some .int), .if_icmp .ne 30, (121, 0, 0, 0, 0, .null)) := rfl
theorem s_M_print_91 {ls : am_L} {st : List Value} {σ : am_H} {Q : Option Value → am_H → Prop} {x y : Int32} : ax k_M_print 91 ls (.int y :: .int x :: st) σ Q = (if x = y then ax k_M_print 94 ls st σ Q else ax k_M_print 121 ls st σ Q) := (ru_icmp f_M_print_91 rfl).trans (ru_i_ne _ _ _ _)
theorem f_M_print_94 : am_cd k_M_print 94 = some ((some .int), .aload_n 0, (0, 0, 0, 0, 0, .null)) := rfl
theorem s_M_print_94 {a1 a2 a3 a4 a5 a6 : Option Value} {st : List Value} {σ : am_H} {Q : Option Value → am_H → Prop} {x : Nat} : ax k_M_print 94 [some (.ref x), a1, a2, a3, a4, a5, a6] st σ Q = ax k_M_print 95 [some (.ref x), a1, a2, a3, a4, a5, a6] (.ref x :: st) σ Q := ru_loc (q := (_, _)) f_M_print_94 rfl rfl rfl
theorem f_M_print_95 : am_cd k_M_print 95 = some ((some .int), .getfield 112, (11, 48, 965, 0, 3, .null)) := rfl
theorem s_M_print_95 {ls : am_L} {st : List Value} {σ : am_H} {Q : Option Value → am_H → Prop} {a : Nat} : ax k_M_print 95 ls (.ref a :: st) σ Q = ax_f (am_fld σ a 11 48) (fun v => ax k_M_print 98 ls (v :: st) σ Q) := ru_getf f_M_print_95 rfl
theorem f_M_print_98 : am_cd k_M_print 98 = some ((some .int), .iload 6, (0, 0, 0, 0, 0, .null)) := rfl
theorem s_M_print_98 {a0 a1 a2 a3 a4 a5 : Option Value} {st : List Value} {σ : am_H} {Q : Option Value → am_H → Prop} {x : Int32} : ax k_M_print 98 [a0, a1, a2, a3, a4, a5, some (.int x)] st σ Q = ax k_M_print 100 [a0, a1, a2, a3, a4, a5, some (.int x)] (.int x :: st) σ Q := ru_loc (q := (_, _)) f_M_print_98 rfl rfl rfl
theorem f_M_print_100 : am_cd k_M_print 100 = some ((some .int), .iaload, (0, 0, 0, 0, 0, .null)) := rfl
theorem s_M_print_100 {ls : am_L} {st : List Value} {σ : am_H} {Q : Option Value → am_H → Prop} {a : Nat} {j : Int32} : ax k_M_print 100 ls (.int j :: .ref a :: st) σ Q = ax_f (am_j σ a) (fun q => q.1 = 0 ∧ am_ix j q.2.1 ∧ ax k_M_print 101 ls (.int (q.2.2 j.toNatClampNeg) :: st) σ Q) := rv_iald f_M_print_100 rfl
theorem f_M_print_101 : am_cd k_M_print 101 = some ((some .int), .iload_n 3, (0, 0, 0, 0, 0, .null)) := rfl
theorem s_M_print_101 {a0 a1 a2 a4 a5 a6 : Option Value} {st : List Value} {σ : am_H} {Q : Option Value → am_H → Prop} {x : Int32} : ax k_M_print 101 [a0, a1, a2, some (.int x), a4, a5, a6] st σ Q = ax k_M_print 102 [a0, a1, a2, some (.int x), a4, a5, a6] (.int x :: st) σ Q := ru_loc (q := (_, _)) f_M_print_101 rfl rfl rfl
theorem f_M_print_102 : am_cd k_M_print 102 = some ((some .int), .if_icmp .ne 19, (121, 0, 0, 0, 0, .null)) := rfl
theorem s_M_print_102 {ls : am_L} {st : List Value} {σ : am_H} {Q : Option Value → am_H → Prop} {x y : Int32} : ax k_M_print 102 ls (.int y :: .int x :: st) σ Q = (if x = y then ax k_M_print 105 ls st σ Q else ax k_M_print 121 ls st σ Q) := (ru_icmp f_M_print_102 rfl).trans (ru_i_ne _ _ _ _)
theorem f_M_print_105 : am_cd k_M_print 105 = some ((some .int), .aload_n 0, (0, 0, 0, 0, 0, .null)) := rfl
theorem s_M_print_105 {a1 a2 a3 a4 a5 a6 : Option Value} {st : List Value} {σ : am_H} {Q : Option Value → am_H → Prop} {x : Nat} : ax k_M_print 105 [some (.ref x), a1, a2, a3, a4, a5, a6] st σ Q = ax k_M_print 106 [some (.ref x), a1, a2, a3, a4, a5, a6] (.ref x :: st) σ Q := ru_loc (q := (_, _)) f_M_print_105 rfl rfl rfl
theorem f_M_print_106 : am_cd k_M_print 106 = some ((some .int), .getfield 115, (11, 49, 966, 0, 3, .null)) := rfl
theorem s_M_print_106 {ls : am_L} {st : List Value} {σ : am_H} {Q : Option Value → am_H → Prop} {a : Nat} : ax k_M_print 106 ls (.ref a :: st) σ Q = ax_f (am_fld σ a 11 49) (fun v => ax k_M_print 109 ls (v :: st) σ Q) := ru_getf f_M_print_106 rfl
theorem f_M_print_109 : am_cd k_M_print 109 = some ((some .int), .iload 6, (0, 0, 0, 0, 0, .null)) := rfl
theorem s_M_print_109 {a0 a1 a2 a3 a4 a5 : Option Value} {st : List Value} {σ : am_H} {Q : Option Value → am_H → Prop} {x : Int32} : ax k_M_print 109 [a0, a1, a2, a3, a4, a5, some (.int x)] st σ Q = ax k_M_print 111 [a0, a1, a2, a3, a4, a5, some (.int x)] (.int x :: st) σ Q := ru_loc (q := (_, _)) f_M_print_109 rfl rfl rfl
theorem f_M_print_111 : am_cd k_M_print 111 = some ((some .int), .iaload, (0, 0, 0, 0, 0, .null)) := rfl
theorem s_M_print_111 {ls : am_L} {st : List Value} {σ : am_H} {Q : Option Value → am_H → Prop} {a : Nat} {j : Int32} : ax k_M_print 111 ls (.int j :: .ref a :: st) σ Q = ax_f (am_j σ a) (fun q => q.1 = 0 ∧ am_ix j q.2.1 ∧ ax k_M_print 112 ls (.int (q.2.2 j.toNatClampNeg) :: st) σ Q) := rv_iald f_M_print_111 rfl
theorem f_M_print_112 : am_cd k_M_print 112 = some ((some .int), .iload 4, (0, 0, 0, 0, 0, .null)) := rfl
theorem s_M_print_112 {a0 a1 a2 a3 a5 a6 : Option Value} {st : List Value} {σ : am_H} {Q : Option Value → am_H → Prop} {x : Int32} : ax k_M_print 112 [a0, a1, a2, a3, some (.int x), a5, a6] st σ Q = ax k_M_print 114 [a0, a1, a2, a3, some (.int x), a5, a6] (.int x :: st) σ Q := ru_loc (q := (_, _)) f_M_print_112 rfl rfl rfl
theorem f_M_print_114 : am_cd k_M_print 114 = some ((some .int), .if_icmp .lt 7, (121, 0, 0, 0, 0, .null)) := rfl
theorem s_M_print_114 {ls : am_L} {st : List Value} {σ : am_H} {Q : Option Value → am_H → Prop} {x y : Int32} : ax k_M_print 114 ls (.int y :: .int x :: st) σ Q = (if x < y then ax k_M_print 121 ls st σ Q else ax k_M_print 117 ls st σ Q) := (ru_icmp f_M_print_114 rfl).trans (ru_i_lt _ _ _ _)
theorem f_M_print_117 : am_cd k_M_print 117 = some ((some .int), .iload 6, (0, 0, 0, 0, 0, .null)) := rfl
theorem s_M_print_117 {a0 a1 a2 a3 a4 a5 : Option Value} {st : List Value} {σ : am_H} {Q : Option Value → am_H → Prop} {x : Int32} : ax k_M_print 117 [a0, a1, a2, a3, a4, a5, some (.int x)] st σ Q = ax k_M_print 119 [a0, a1, a2, a3, a4, a5, some (.int x)] (.int x :: st) σ Q := ru_loc (q := (_, _)) f_M_print_117 rfl rfl rfl
theorem f_M_print_119 : am_cd k_M_print 119 = some ((some .int), .istore 5, (0, 0, 0, 0, 0, .null)) := rfl
theorem s_M_print_119 {a0 a1 a2 a3 a4 a5 a6 : Option Value} {st : List Value} {σ : am_H} {Q : Option Value → am_H → Prop} {x : Int32} (hc : am_c2 a4 = false) : ax k_M_print 119 [a0, a1, a2, a3, a4, a5, a6] (.int x :: st) σ Q = ax k_M_print 121 [a0, a1, a2, a3, a4, some (.int x), a6] st σ Q := ru_istore f_M_print_119 (Nat.le_of_ble_eq_true rfl) (ru_st1 (Nat.le_of_ble_eq_true rfl) (am_clr_c2 hc rfl) rfl) rfl
theorem f_M_print_121 : am_cd k_M_print 121 = some ((some .int), .iinc 6 1, (0, 0, 0, 0, 0, .null)) := rfl
theorem s_M_print_121 {a0 a1 a2 a3 a4 a5 : Option Value} {st : List Value} {σ : am_H} {Q : Option Value → am_H → Prop} {x : Int32} (hc : am_c2 a5 = false) : ax k_M_print 121 [a0, a1, a2, a3, a4, a5, some (.int x)] st σ Q = ax k_M_print 124 [a0, a1, a2, a3, a4, a5, some (.int (x + 1))] st σ Q := ru_iinc f_M_print_121 rfl (Nat.le_of_ble_eq_true rfl) (by decide +kernel) (ru_st1 (Nat.le_of_ble_eq_true rfl) (am_clr_c2 hc rfl) rfl) rfl
theorem f_M_print_124 : am_cd k_M_print 124 = some ((some .int), .goto (-90), (34, 0, 0, 0, 0, .null)) := rfl
theorem s_M_print_124 {ls : am_L} {st : List Value} {σ : am_H} {Q : Option Value → am_H → Prop} : ax k_M_print 124 ls st σ Q = ax k_M_print 34 ls st σ Q := ru_goto f_M_print_124
theorem f_M_print_127 : am_cd k_M_print 127 = some ((some .int), .aload_n 0, (0, 0, 0, 0, 0, .null)) := rfl
theorem s_M_print_127 {a1 a2 a3 a4 a5 a6 : Option Value} {st : List Value} {σ : am_H} {Q : Option Value → am_H → Prop} {x : Nat} : ax k_M_print 127 [some (.ref x), a1, a2, a3, a4, a5, a6] st σ Q = ax k_M_print 128 [some (.ref x), a1, a2, a3, a4, a5, a6] (.ref x :: st) σ Q := ru_loc (q := (_, _)) f_M_print_127 rfl rfl rfl
theorem f_M_print_128 : am_cd k_M_print 128 = some ((some .int), .getfield 148, (11, 61, 978, 0, 3, .null)) := rfl
theorem s_M_print_128 {ls : am_L} {st : List Value} {σ : am_H} {Q : Option Value → am_H → Prop} {a : Nat} : ax k_M_print 128 ls (.ref a :: st) σ Q = ax_f (am_fld σ a 11 61) (fun v => ax k_M_print 131 ls (v :: st) σ Q) := ru_getf f_M_print_128 rfl
theorem f_M_print_131 : am_cd k_M_print 131 = some ((some .int), .aload_n 0, (0, 0, 0, 0, 0, .null)) := rfl
theorem s_M_print_131 {a1 a2 a3 a4 a5 a6 : Option Value} {st : List Value} {σ : am_H} {Q : Option Value → am_H → Prop} {x : Nat} : ax k_M_print 131 [some (.ref x), a1, a2, a3, a4, a5, a6] st σ Q = ax k_M_print 132 [some (.ref x), a1, a2, a3, a4, a5, a6] (.ref x :: st) σ Q := ru_loc (q := (_, _)) f_M_print_131 rfl rfl rfl
theorem f_M_print_132 : am_cd k_M_print 132 = some ((some .int), .getfield 309, (11, 60, 977, 0, 0, .null)) := rfl
theorem s_M_print_132 {ls : am_L} {st : List Value} {σ : am_H} {Q : Option Value → am_H → Prop} {a : Nat} : ax k_M_print 132 ls (.ref a :: st) σ Q = ax_f (am_fld σ a 11 60) (fun v => ax k_M_print 135 ls (v :: st) σ Q) := ru_getf f_M_print_132 rfl
theorem f_M_print_135 : am_cd k_M_print 135 = some ((some .int), .iload 5, (0, 0, 0, 0, 0, .null)) := rfl
theorem s_M_print_135 {a0 a1 a2 a3 a4 a6 : Option Value} {st : List Value} {σ : am_H} {Q : Option Value → am_H → Prop} {x : Int32} : ax k_M_print 135 [a0, a1, a2, a3, a4, some (.int x), a6] st σ Q = ax k_M_print 137 [a0, a1, a2, a3, a4, some (.int x), a6] (.int x :: st) σ Q := ru_loc (q := (_, _)) f_M_print_135 rfl rfl rfl
theorem f_M_print_137 : am_cd k_M_print 137 = some ((some .int), .iastore, (0, 0, 0, 0, 0, .null)) := rfl
theorem s_M_print_137 {ls : am_L} {st : List Value} {σ : am_H} {Q : Option Value → am_H → Prop} {a : Nat} {j x : Int32} : ax k_M_print 137 ls (.int x :: .int j :: .ref a :: st) σ Q = ax_f (am_j σ a) (fun q => q.1 = 0 ∧ am_ix j q.2.1 ∧ a < am_top ∧ ax k_M_print 138 ls st (am_set σ a (am_ia 0 q.2.1 (upd q.2.2 j.toNatClampNeg x))) Q) := rv_iast f_M_print_137 rfl
theorem f_M_print_138 : am_cd k_M_print 138 = some ((some .int), .iload 5, (0, 0, 0, 0, 0, .null)) := rfl
theorem s_M_print_138 {a0 a1 a2 a3 a4 a6 : Option Value} {st : List Value} {σ : am_H} {Q : Option Value → am_H → Prop} {x : Int32} : ax k_M_print 138 [a0, a1, a2, a3, a4, some (.int x), a6] st σ Q = ax k_M_print 140 [a0, a1, a2, a3, a4, some (.int x), a6] (.int x :: st) σ Q := ru_loc (q := (_, _)) f_M_print_138 rfl rfl rfl
theorem f_M_print_140 : am_cd k_M_print 140 = some ((some .int), .ifCond .lt 14, (154, 0, 0, 0, 0, .null)) := rfl
theorem s_M_print_140 {ls : am_L} {st : List Value} {σ : am_H} {Q : Option Value → am_H → Prop} {x : Int32} : ax k_M_print 140 ls (.int x :: st) σ Q = (if x < 0 then ax k_M_print 154 ls st σ Q else ax k_M_print 143 ls st σ Q) := (ru_if f_M_print_140 rfl).trans (ru_i_lt _ _ _ _)
theorem f_M_print_143 : am_cd k_M_print 143 = some ((some .int), .aload_n 0, (0, 0, 0, 0, 0, .null)) := rfl
theorem s_M_print_143 {a1 a2 a3 a4 a5 a6 : Option Value} {st : List Value} {σ : am_H} {Q : Option Value → am_H → Prop} {x : Nat} : ax k_M_print 143 [some (.ref x), a1, a2, a3, a4, a5, a6] st σ Q = ax k_M_print 144 [some (.ref x), a1, a2, a3, a4, a5, a6] (.ref x :: st) σ Q := ru_loc (q := (_, _)) f_M_print_143 rfl rfl rfl
theorem f_M_print_144 : am_cd k_M_print 144 = some ((some .int), .getfield 139, (11, 57, 974, 0, 3, .null)) := rfl
theorem s_M_print_144 {ls : am_L} {st : List Value} {σ : am_H} {Q : Option Value → am_H → Prop} {a : Nat} : ax k_M_print 144 ls (.ref a :: st) σ Q = ax_f (am_fld σ a 11 57) (fun v => ax k_M_print 147 ls (v :: st) σ Q) := ru_getf f_M_print_144 rfl
theorem f_M_print_147 : am_cd k_M_print 147 = some ((some .int), .iload 5, (0, 0, 0, 0, 0, .null)) := rfl
theorem s_M_print_147 {a0 a1 a2 a3 a4 a6 : Option Value} {st : List Value} {σ : am_H} {Q : Option Value → am_H → Prop} {x : Int32} : ax k_M_print 147 [a0, a1, a2, a3, a4, some (.int x), a6] st σ Q = ax k_M_print 149 [a0, a1, a2, a3, a4, some (.int x), a6] (.int x :: st) σ Q := ru_loc (q := (_, _)) f_M_print_147 rfl rfl rfl
theorem f_M_print_149 : am_cd k_M_print 149 = some ((some .int), .aload_n 0, (0, 0, 0, 0, 0, .null)) := rfl
theorem s_M_print_149 {a1 a2 a3 a4 a5 a6 : Option Value} {st : List Value} {σ : am_H} {Q : Option Value → am_H → Prop} {x : Nat} : ax k_M_print 149 [some (.ref x), a1, a2, a3, a4, a5, a6] st σ Q = ax k_M_print 150 [some (.ref x), a1, a2, a3, a4, a5, a6] (.ref x :: st) σ Q := ru_loc (q := (_, _)) f_M_print_149 rfl rfl rfl
theorem f_M_print_150 : am_cd k_M_print 150 = some ((some .int), .getfield 309, (11, 60, 977, 0, 0, .null)) := rfl
theorem s_M_print_150 {ls : am_L} {st : List Value} {σ : am_H} {Q : Option Value → am_H → Prop} {a : Nat} : ax k_M_print 150 ls (.ref a :: st) σ Q = ax_f (am_fld σ a 11 60) (fun v => ax k_M_print 153 ls (v :: st) σ Q) := ru_getf f_M_print_150 rfl
theorem f_M_print_153 : am_cd k_M_print 153 = some ((some .int), .iastore, (0, 0, 0, 0, 0, .null)) := rfl
theorem s_M_print_153 {ls : am_L} {st : List Value} {σ : am_H} {Q : Option Value → am_H → Prop} {a : Nat} {j x : Int32} : ax k_M_print 153 ls (.int x :: .int j :: .ref a :: st) σ Q = ax_f (am_j σ a) (fun q => q.1 = 0 ∧ am_ix j q.2.1 ∧ a < am_top ∧ ax k_M_print 154 ls st (am_set σ a (am_ia 0 q.2.1 (upd q.2.2 j.toNatClampNeg x))) Q) := rv_iast f_M_print_153 rfl
theorem f_M_print_154 : am_cd k_M_print 154 = some ((some .int), .aload_n 0, (0, 0, 0, 0, 0, .null)) := rfl
theorem s_M_print_154 {a1 a2 a3 a4 a5 a6 : Option Value} {st : List Value} {σ : am_H} {Q : Option Value → am_H → Prop} {x : Nat} : ax k_M_print 154 [some (.ref x), a1, a2, a3, a4, a5, a6] st σ Q = ax k_M_print 155 [some (.ref x), a1, a2, a3, a4, a5, a6] (.ref x :: st) σ Q := ru_loc (q := (_, _)) f_M_print_154 rfl rfl rfl
theorem f_M_print_155 : am_cd k_M_print 155 = some ((some .int), .dup, (0, 0, 0, 0, 0, .null)) := rfl
theorem s_M_print_155 {ls : am_L} {st : List Value} {σ : am_H} {Q : Option Value → am_H → Prop} {a : Nat} : ax k_M_print 155 ls (.ref a :: st) σ Q = ax k_M_print 156 ls (.ref a :: .ref a :: st) σ Q := ru_pure f_M_print_155 rfl rfl
theorem f_M_print_156 : am_cd k_M_print 156 = some ((some .int), .getfield 309, (11, 60, 977, 0, 0, .null)) := rfl
theorem s_M_print_156 {ls : am_L} {st : List Value} {σ : am_H} {Q : Option Value → am_H → Prop} {a : Nat} : ax k_M_print 156 ls (.ref a :: st) σ Q = ax_f (am_fld σ a 11 60) (fun v => ax k_M_print 159 ls (v :: st) σ Q) := ru_getf f_M_print_156 rfl
theorem f_M_print_159 : am_cd k_M_print 159 = some ((some .int), .iconst 1, (0, 0, 0, 0, 0, .null)) := rfl
theorem s_M_print_159 {ls : am_L} {st : List Value} {σ : am_H} {Q : Option Value → am_H → Prop} : ax k_M_print 159 ls st σ Q = ax k_M_print 160 ls (.int 1 :: st) σ Q := ru_iconst f_M_print_159 (by decide +kernel) rfl
theorem f_M_print_160 : am_cd k_M_print 160 = some ((some .int), .iadd, (0, 0, 0, 0, 0, .null)) := rfl
theorem s_M_print_160 {ls : am_L} {st : List Value} {σ : am_H} {Q : Option Value → am_H → Prop} {x y : Int32} : ax k_M_print 160 ls (.int y :: .int x :: st) σ Q = ax k_M_print 161 ls (.int (x + y) :: st) σ Q := ru_pure f_M_print_160 rfl rfl
theorem f_M_print_161 : am_cd k_M_print 161 = some ((some .int), .putfield 309, (11, 60, 977, 0, 0, .null)) := rfl
theorem s_M_print_161 {ls : am_L} {st : List Value} {σ : am_H} {Q : Option Value → am_H → Prop} {a : Nat} {v : Value} : ax k_M_print 161 ls (v :: .ref a :: st) σ Q = ax_f (am_fld σ a 11 60) (fun _ => a < am_top ∧ am_okv 0 v = true ∧ ax k_M_print 164 ls st (am_put σ a 60 v) Q) := ru_putf f_M_print_161 rfl
theorem f_M_print_164 : am_cd k_M_print 164 = some ((some .int), .aload_n 0, (0, 0, 0, 0, 0, .null)) := rfl
theorem s_M_print_164 {a1 a2 a3 a4 a5 a6 : Option Value} {st : List Value} {σ : am_H} {Q : Option Value → am_H → Prop} {x : Nat} : ax k_M_print 164 [some (.ref x), a1, a2, a3, a4, a5, a6] st σ Q = ax k_M_print 165 [some (.ref x), a1, a2, a3, a4, a5, a6] (.ref x :: st) σ Q := ru_loc (q := (_, _)) f_M_print_164 rfl rfl rfl
theorem f_M_print_165 : am_cd k_M_print 165 = some ((some .int), .getfield 309, (11, 60, 977, 0, 0, .null)) := rfl
theorem s_M_print_165 {ls : am_L} {st : List Value} {σ : am_H} {Q : Option Value → am_H → Prop} {a : Nat} : ax k_M_print 165 ls (.ref a :: st) σ Q = ax_f (am_fld σ a 11 60) (fun v => ax k_M_print 168 ls (v :: st) σ Q) := ru_getf f_M_print_165 rfl
theorem f_M_print_168 : am_cd k_M_print 168 = some ((some .int), .iconst 1, (0, 0, 0, 0, 0, .null)) := rfl
theorem s_M_print_168 {ls : am_L} {st : List Value} {σ : am_H} {Q : Option Value → am_H → Prop} : ax k_M_print 168 ls st σ Q = ax k_M_print 169 ls (.int 1 :: st) σ Q := ru_iconst f_M_print_168 (by decide +kernel) rfl
theorem f_M_print_169 : am_cd k_M_print 169 = some ((some .int), .isub, (0, 0, 0, 0, 0, .null)) := rfl
theorem s_M_print_169 {ls : am_L} {st : List Value} {σ : am_H} {Q : Option Value → am_H → Prop} {x y : Int32} : ax k_M_print 169 ls (.int y :: .int x :: st) σ Q = ax k_M_print 170 ls (.int (x - y) :: st) σ Q := ru_pure f_M_print_169 rfl rfl
theorem f_M_print_170 : am_cd k_M_print 170 = some ((some .int), .ireturn, (0, 0, 0, 0, 0, .null)) := rfl
theorem s_M_print_170 {ls : am_L} {σ : am_H} {Q : Option Value → am_H → Prop} {v : Int32} : ax k_M_print 170 ls [.int v] σ Q = Q (some (.int v)) σ := ru_iretI f_M_print_170
theorem f_M_printed_0 : am_cd k_M_printed 0 = some ((some .int), .iload_n 1, (0, 0, 0, 0, 0, .null)) := rfl
theorem s_M_printed_0 {a0 : Option Value} {st : List Value} {σ : am_H} {Q : Option Value → am_H → Prop} {x : Int32} : ax k_M_printed 0 [a0, some (.int x)] st σ Q = ax k_M_printed 1 [a0, some (.int x)] (.int x :: st) σ Q := ru_loc (q := (_, _)) f_M_printed_0 rfl rfl rfl
theorem f_M_printed_1 : am_cd k_M_printed 1 = some ((some .int), .iconst 0, (0, 0, 0, 0, 0, .null)) := rfl
theorem s_M_printed_1 {ls : am_L} {st : List Value} {σ : am_H} {Q : Option Value → am_H → Prop} : ax k_M_printed 1 ls st σ Q = ax k_M_printed 2 ls (.int 0 :: st) σ Q := ru_iconst f_M_printed_1 (by decide +kernel) rfl
theorem f_M_printed_2 : am_cd k_M_printed 2 = some ((some .int), .aload_n 0, (0, 0, 0, 0, 0, .null)) := rfl
theorem s_M_printed_2 {a1 : Option Value} {st : List Value} {σ : am_H} {Q : Option Value → am_H → Prop} {x : Nat} : ax k_M_printed 2 [some (.ref x), a1] st σ Q = ax k_M_printed 3 [some (.ref x), a1] (.ref x :: st) σ Q := ru_loc (q := (_, _)) f_M_printed_2 rfl rfl rfl
theorem f_M_printed_3 : am_cd k_M_printed 3 = some ((some .int), .getfield 309, (11, 60, 977, 0, 0, .null)) := rfl
theorem s_M_printed_3 {ls : am_L} {st : List Value} {σ : am_H} {Q : Option Value → am_H → Prop} {a : Nat} : ax k_M_printed 3 ls (.ref a :: st) σ Q = ax_f (am_fld σ a 11 60) (fun v => ax k_M_printed 6 ls (v :: st) σ Q) := ru_getf f_M_printed_3 rfl
theorem f_M_printed_6 : am_cd k_M_printed 6 = some ((some .int), .iconst 1, (0, 0, 0, 0, 0, .null)) := rfl
theorem s_M_printed_6 {ls : am_L} {st : List Value} {σ : am_H} {Q : Option Value → am_H → Prop} : ax k_M_printed 6 ls st σ Q = ax k_M_printed 7 ls (.int 1 :: st) σ Q := ru_iconst f_M_printed_6 (by decide +kernel) rfl
theorem f_M_printed_7 : am_cd k_M_printed 7 = some ((some .int), .isub, (0, 0, 0, 0, 0, .null)) := rfl
theorem s_M_printed_7 {ls : am_L} {st : List Value} {σ : am_H} {Q : Option Value → am_H → Prop} {x y : Int32} : ax k_M_printed 7 ls (.int y :: .int x :: st) σ Q = ax k_M_printed 8 ls (.int (x - y) :: st) σ Q := ru_pure f_M_printed_7 rfl rfl
theorem f_M_printed_8 : am_cd k_M_printed 8 = some ((some .int), .invokestatic 154, (113, 3, 1110, 0, 11, .null)) := rfl
theorem s_M_printed_8 {ls : am_L} {st : List Value} {σ : am_H} {Q : Option Value → am_H → Prop} {p0 : Int32} {p1 : Int32} {p2 : Int32} (h8 : am_s8 st) : ax k_M_printed 8 ls (.int p2 :: .int p1 :: .int p0 :: st) σ Q = ax k_M_isIn 0 [some (.int p0), some (.int p1), some (.int p2)] [] σ (ax_k k_M_printed 11 ls st Q) := ru_sta (M' := rk_M_isIn) f_M_printed_8 rfl (by decide) rfl (by simp) rfl h8 rfl rfl rfl rfl rfl
theorem f_M_printed_11 : am_cd k_M_printed 11 = some ((some .int), .ifCond .eq 12, (23, 0, 0, 0, 0, .null)) := rfl
theorem s_M_printed_11 {ls : am_L} {st : List Value} {σ : am_H} {Q : Option Value → am_H → Prop} {x : Int32} : ax k_M_printed 11 ls (.int x :: st) σ Q = (if x = 0 then ax k_M_printed 23 ls st σ Q else ax k_M_printed 14 ls st σ Q) := (ru_if f_M_printed_11 rfl).trans (ru_i_eq _ _ _ _)
theorem f_M_printed_14 : am_cd k_M_printed 14 = some ((some .int), .aload_n 0, (0, 0, 0, 0, 0, .null)) := rfl
theorem s_M_printed_14 {a1 : Option Value} {st : List Value} {σ : am_H} {Q : Option Value → am_H → Prop} {x : Nat} : ax k_M_printed 14 [some (.ref x), a1] st σ Q = ax k_M_printed 15 [some (.ref x), a1] (.ref x :: st) σ Q := ru_loc (q := (_, _)) f_M_printed_14 rfl rfl rfl
theorem f_M_printed_15 : am_cd k_M_printed 15 = some ((some .int), .getfield 148, (11, 61, 978, 0, 3, .null)) := rfl
theorem s_M_printed_15 {ls : am_L} {st : List Value} {σ : am_H} {Q : Option Value → am_H → Prop} {a : Nat} : ax k_M_printed 15 ls (.ref a :: st) σ Q = ax_f (am_fld σ a 11 61) (fun v => ax k_M_printed 18 ls (v :: st) σ Q) := ru_getf f_M_printed_15 rfl
theorem f_M_printed_18 : am_cd k_M_printed 18 = some ((some .int), .iload_n 1, (0, 0, 0, 0, 0, .null)) := rfl
theorem s_M_printed_18 {a0 : Option Value} {st : List Value} {σ : am_H} {Q : Option Value → am_H → Prop} {x : Int32} : ax k_M_printed 18 [a0, some (.int x)] st σ Q = ax k_M_printed 19 [a0, some (.int x)] (.int x :: st) σ Q := ru_loc (q := (_, _)) f_M_printed_18 rfl rfl rfl
theorem f_M_printed_19 : am_cd k_M_printed 19 = some ((some .int), .iaload, (0, 0, 0, 0, 0, .null)) := rfl
theorem s_M_printed_19 {ls : am_L} {st : List Value} {σ : am_H} {Q : Option Value → am_H → Prop} {a : Nat} {j : Int32} : ax k_M_printed 19 ls (.int j :: .ref a :: st) σ Q = ax_f (am_j σ a) (fun q => q.1 = 0 ∧ am_ix j q.2.1 ∧ ax k_M_printed 20 ls (.int (q.2.2 j.toNatClampNeg) :: st) σ Q) := rv_iald f_M_printed_19 rfl
theorem f_M_printed_20 : am_cd k_M_printed 20 = some ((some .int), .goto 4, (24, 0, 0, 0, 0, .null)) := rfl
theorem s_M_printed_20 {ls : am_L} {st : List Value} {σ : am_H} {Q : Option Value → am_H → Prop} : ax k_M_printed 20 ls st σ Q = ax k_M_printed 24 ls st σ Q := ru_goto f_M_printed_20
theorem f_M_printed_23 : am_cd k_M_printed 23 = some ((some .int), .iconst (-1), (0, 0, 0, 0, 0, .null)) := rfl
theorem s_M_printed_23 {ls : am_L} {st : List Value} {σ : am_H} {Q : Option Value → am_H → Prop} : ax k_M_printed 23 ls st σ Q = ax k_M_printed 24 ls (.int (-1) :: st) σ Q := ru_iconst f_M_printed_23 (by decide +kernel) rfl
theorem f_M_printed_24 : am_cd k_M_printed 24 = some ((some .int), .ireturn, (0, 0, 0, 0, 0, .null)) := rfl
theorem s_M_printed_24 {ls : am_L} {σ : am_H} {Q : Option Value → am_H → Prop} {v : Int32} : ax k_M_printed 24 ls [.int v] σ Q = Q (some (.int v)) σ := ru_iretI f_M_printed_24
theorem f_M_about_0 : am_cd k_M_about 0 = some ((some .int), .iconst 0, (0, 0, 0, 0, 0, .null)) := rfl
theorem s_M_about_0 {ls : am_L} {st : List Value} {σ : am_H} {Q : Option Value → am_H → Prop} : ax k_M_about 0 ls st σ Q = ax k_M_about 1 ls (.int 0 :: st) σ Q := ru_iconst f_M_about_0 (by decide +kernel) rfl
theorem f_M_about_1 : am_cd k_M_about 1 = some ((some .int), .istore_n 2, (0, 0, 0, 0, 0, .null)) := rfl
theorem s_M_about_1 {a0 a1 a2 a3 : Option Value} {st : List Value} {σ : am_H} {Q : Option Value → am_H → Prop} {x : Int32} (hc : am_c2 a1 = false) : ax k_M_about 1 [a0, a1, a2, a3] (.int x :: st) σ Q = ax k_M_about 2 [a0, a1, some (.int x), a3] st σ Q := ru_istore_n f_M_about_1 (Nat.le_of_ble_eq_true rfl) (ru_st1 (Nat.le_of_ble_eq_true rfl) (am_clr_c2 hc rfl) rfl) rfl
theorem f_M_about_2 : am_cd k_M_about 2 = some ((some .int), .iconst 0, (0, 0, 0, 0, 0, .null)) := rfl
theorem s_M_about_2 {ls : am_L} {st : List Value} {σ : am_H} {Q : Option Value → am_H → Prop} : ax k_M_about 2 ls st σ Q = ax k_M_about 3 ls (.int 0 :: st) σ Q := ru_iconst f_M_about_2 (by decide +kernel) rfl
theorem f_M_about_3 : am_cd k_M_about 3 = some ((some .int), .istore_n 3, (0, 0, 0, 0, 0, .null)) := rfl
theorem s_M_about_3 {a0 a1 a2 a3 : Option Value} {st : List Value} {σ : am_H} {Q : Option Value → am_H → Prop} {x : Int32} (hc : am_c2 a2 = false) : ax k_M_about 3 [a0, a1, a2, a3] (.int x :: st) σ Q = ax k_M_about 4 [a0, a1, a2, some (.int x)] st σ Q := ru_istore_n f_M_about_3 (Nat.le_of_ble_eq_true rfl) (ru_st1 (Nat.le_of_ble_eq_true rfl) (am_clr_c2 hc rfl) rfl) rfl
theorem f_M_about_4 : am_cd k_M_about 4 = some ((some .int), .iload_n 3, (0, 0, 0, 0, 0, .null)) := rfl
theorem s_M_about_4 {a0 a1 a2 : Option Value} {st : List Value} {σ : am_H} {Q : Option Value → am_H → Prop} {x : Int32} : ax k_M_about 4 [a0, a1, a2, some (.int x)] st σ Q = ax k_M_about 5 [a0, a1, a2, some (.int x)] (.int x :: st) σ Q := ru_loc (q := (_, _)) f_M_about_4 rfl rfl rfl
theorem f_M_about_5 : am_cd k_M_about 5 = some ((some .int), .aload_n 0, (0, 0, 0, 0, 0, .null)) := rfl
theorem s_M_about_5 {a1 a2 a3 : Option Value} {st : List Value} {σ : am_H} {Q : Option Value → am_H → Prop} {x : Nat} : ax k_M_about 5 [some (.ref x), a1, a2, a3] st σ Q = ax k_M_about 6 [some (.ref x), a1, a2, a3] (.ref x :: st) σ Q := ru_loc (q := (_, _)) f_M_about_5 rfl rfl rfl
theorem f_M_about_6 : am_cd k_M_about 6 = some ((some .int), .getfield 309, (11, 60, 977, 0, 0, .null)) := rfl
theorem s_M_about_6 {ls : am_L} {st : List Value} {σ : am_H} {Q : Option Value → am_H → Prop} {a : Nat} : ax k_M_about 6 ls (.ref a :: st) σ Q = ax_f (am_fld σ a 11 60) (fun v => ax k_M_about 9 ls (v :: st) σ Q) := ru_getf f_M_about_6 rfl
theorem f_M_about_9 : am_cd k_M_about 9 = some ((some .int), .if_icmp .ge 26, (35, 0, 0, 0, 0, .null)) := rfl
theorem s_M_about_9 {ls : am_L} {st : List Value} {σ : am_H} {Q : Option Value → am_H → Prop} {x y : Int32} : ax k_M_about 9 ls (.int y :: .int x :: st) σ Q = (if x < y then ax k_M_about 12 ls st σ Q else ax k_M_about 35 ls st σ Q) := (ru_icmp f_M_about_9 rfl).trans (ru_i_ge _ _ _ _)
theorem f_M_about_12 : am_cd k_M_about 12 = some ((some .int), .iload_n 2, (0, 0, 0, 0, 0, .null)) := rfl
theorem s_M_about_12 {a0 a1 a3 : Option Value} {st : List Value} {σ : am_H} {Q : Option Value → am_H → Prop} {x : Int32} : ax k_M_about 12 [a0, a1, some (.int x), a3] st σ Q = ax k_M_about 13 [a0, a1, some (.int x), a3] (.int x :: st) σ Q := ru_loc (q := (_, _)) f_M_about_12 rfl rfl rfl
theorem f_M_about_13 : am_cd k_M_about 13 = some ((some .int), .aload_n 0, (0, 0, 0, 0, 0, .null)) := rfl
theorem s_M_about_13 {a1 a2 a3 : Option Value} {st : List Value} {σ : am_H} {Q : Option Value → am_H → Prop} {x : Nat} : ax k_M_about 13 [some (.ref x), a1, a2, a3] st σ Q = ax k_M_about 14 [some (.ref x), a1, a2, a3] (.ref x :: st) σ Q := ru_loc (q := (_, _)) f_M_about_13 rfl rfl rfl
theorem f_M_about_14 : am_cd k_M_about 14 = some ((some .int), .getfield 148, (11, 61, 978, 0, 3, .null)) := rfl
theorem s_M_about_14 {ls : am_L} {st : List Value} {σ : am_H} {Q : Option Value → am_H → Prop} {a : Nat} : ax k_M_about 14 ls (.ref a :: st) σ Q = ax_f (am_fld σ a 11 61) (fun v => ax k_M_about 17 ls (v :: st) σ Q) := ru_getf f_M_about_14 rfl
theorem f_M_about_17 : am_cd k_M_about 17 = some ((some .int), .iload_n 3, (0, 0, 0, 0, 0, .null)) := rfl
theorem s_M_about_17 {a0 a1 a2 : Option Value} {st : List Value} {σ : am_H} {Q : Option Value → am_H → Prop} {x : Int32} : ax k_M_about 17 [a0, a1, a2, some (.int x)] st σ Q = ax k_M_about 18 [a0, a1, a2, some (.int x)] (.int x :: st) σ Q := ru_loc (q := (_, _)) f_M_about_17 rfl rfl rfl
theorem f_M_about_18 : am_cd k_M_about 18 = some ((some .int), .iaload, (0, 0, 0, 0, 0, .null)) := rfl
theorem s_M_about_18 {ls : am_L} {st : List Value} {σ : am_H} {Q : Option Value → am_H → Prop} {a : Nat} {j : Int32} : ax k_M_about 18 ls (.int j :: .ref a :: st) σ Q = ax_f (am_j σ a) (fun q => q.1 = 0 ∧ am_ix j q.2.1 ∧ ax k_M_about 19 ls (.int (q.2.2 j.toNatClampNeg) :: st) σ Q) := rv_iald f_M_about_18 rfl
theorem f_M_about_19 : am_cd k_M_about 19 = some ((some .int), .ifCond .ge 7, (26, 0, 0, 0, 0, .null)) := rfl
theorem s_M_about_19 {ls : am_L} {st : List Value} {σ : am_H} {Q : Option Value → am_H → Prop} {x : Int32} : ax k_M_about 19 ls (.int x :: st) σ Q = (if x < 0 then ax k_M_about 22 ls st σ Q else ax k_M_about 26 ls st σ Q) := (ru_if f_M_about_19 rfl).trans (ru_i_ge _ _ _ _)
theorem f_M_about_22 : am_cd k_M_about 22 = some ((some .int), .iconst 1, (0, 0, 0, 0, 0, .null)) := rfl
theorem s_M_about_22 {ls : am_L} {st : List Value} {σ : am_H} {Q : Option Value → am_H → Prop} : ax k_M_about 22 ls st σ Q = ax k_M_about 23 ls (.int 1 :: st) σ Q := ru_iconst f_M_about_22 (by decide +kernel) rfl
theorem f_M_about_23 : am_cd k_M_about 23 = some ((some .int), .goto 4, (27, 0, 0, 0, 0, .null)) := rfl
theorem s_M_about_23 {ls : am_L} {st : List Value} {σ : am_H} {Q : Option Value → am_H → Prop} : ax k_M_about 23 ls st σ Q = ax k_M_about 27 ls st σ Q := ru_goto f_M_about_23
theorem f_M_about_26 : am_cd k_M_about 26 = some ((some .int), .iconst 0, (0, 0, 0, 0, 0, .null)) := rfl
theorem s_M_about_26 {ls : am_L} {st : List Value} {σ : am_H} {Q : Option Value → am_H → Prop} : ax k_M_about 26 ls st σ Q = ax k_M_about 27 ls (.int 0 :: st) σ Q := ru_iconst f_M_about_26 (by decide +kernel) rfl
theorem f_M_about_27 : am_cd k_M_about 27 = some ((some .int), .iadd, (0, 0, 0, 0, 0, .null)) := rfl
theorem s_M_about_27 {ls : am_L} {st : List Value} {σ : am_H} {Q : Option Value → am_H → Prop} {x y : Int32} : ax k_M_about 27 ls (.int y :: .int x :: st) σ Q = ax k_M_about 28 ls (.int (x + y) :: st) σ Q := ru_pure f_M_about_27 rfl rfl
theorem f_M_about_28 : am_cd k_M_about 28 = some ((some .int), .istore_n 2, (0, 0, 0, 0, 0, .null)) := rfl
theorem s_M_about_28 {a0 a1 a2 a3 : Option Value} {st : List Value} {σ : am_H} {Q : Option Value → am_H → Prop} {x : Int32} (hc : am_c2 a1 = false) : ax k_M_about 28 [a0, a1, a2, a3] (.int x :: st) σ Q = ax k_M_about 29 [a0, a1, some (.int x), a3] st σ Q := ru_istore_n f_M_about_28 (Nat.le_of_ble_eq_true rfl) (ru_st1 (Nat.le_of_ble_eq_true rfl) (am_clr_c2 hc rfl) rfl) rfl
theorem f_M_about_29 : am_cd k_M_about 29 = some ((some .int), .iinc 3 1, (0, 0, 0, 0, 0, .null)) := rfl
theorem s_M_about_29 {a0 a1 a2 : Option Value} {st : List Value} {σ : am_H} {Q : Option Value → am_H → Prop} {x : Int32} (hc : am_c2 a2 = false) : ax k_M_about 29 [a0, a1, a2, some (.int x)] st σ Q = ax k_M_about 32 [a0, a1, a2, some (.int (x + 1))] st σ Q := ru_iinc f_M_about_29 rfl (Nat.le_of_ble_eq_true rfl) (by decide +kernel) (ru_st1 (Nat.le_of_ble_eq_true rfl) (am_clr_c2 hc rfl) rfl) rfl
theorem f_M_about_32 : am_cd k_M_about 32 = some ((some .int), .goto (-28), (4, 0, 0, 0, 0, .null)) := rfl
theorem s_M_about_32 {ls : am_L} {st : List Value} {σ : am_H} {Q : Option Value → am_H → Prop} : ax k_M_about 32 ls st σ Q = ax k_M_about 4 ls st σ Q := ru_goto f_M_about_32
theorem f_M_about_35 : am_cd k_M_about 35 = some ((some .int), .iload_n 1, (0, 0, 0, 0, 0, .null)) := rfl
theorem s_M_about_35 {a0 a2 a3 : Option Value} {st : List Value} {σ : am_H} {Q : Option Value → am_H → Prop} {x : Int32} : ax k_M_about 35 [a0, some (.int x), a2, a3] st σ Q = ax k_M_about 36 [a0, some (.int x), a2, a3] (.int x :: st) σ Q := ru_loc (q := (_, _)) f_M_about_35 rfl rfl rfl
theorem f_M_about_36 : am_cd k_M_about 36 = some ((some .int), .tableswitch 94 0 8 #[52, 57, 62, 67, 72, 77, 79, 84, 89], (0, 0, 0, 0, 0, .null)) := rfl
theorem s_M_about_36 {ls : am_L} {st : List Value} {σ : am_H} {Q : Option Value → am_H → Prop} {x : Int32} : ax k_M_about 36 ls (.int x :: st) σ Q = (if x = 0 then ax k_M_about 88 ls st σ Q else (if x = 1 then ax k_M_about 93 ls st σ Q else (if x = 2 then ax k_M_about 98 ls st σ Q else (if x = 3 then ax k_M_about 103 ls st σ Q else (if x = 4 then ax k_M_about 108 ls st σ Q else (if x = 5 then ax k_M_about 113 ls st σ Q else (if x = 6 then ax k_M_about 115 ls st σ Q else (if x = 7 then ax k_M_about 120 ls st σ Q else (if x = 8 then ax k_M_about 125 ls st σ Q else ax k_M_about 130 ls st σ Q))))))))) := by
  by_cases h0 : x = 0
  · rw [if_pos h0]; subst h0; exact ru_tabI f_M_about_36 (by decide) rfl rfl
  by_cases h1 : x = 1
  · rw [if_neg h0, if_pos h1]; subst h1; exact ru_tabI f_M_about_36 (by decide) rfl rfl
  by_cases h2 : x = 2
  · rw [if_neg h0, if_neg h1, if_pos h2]; subst h2; exact ru_tabI f_M_about_36 (by decide) rfl rfl
  by_cases h3 : x = 3
  · rw [if_neg h0, if_neg h1, if_neg h2, if_pos h3]; subst h3; exact ru_tabI f_M_about_36 (by decide) rfl rfl
  by_cases h4 : x = 4
  · rw [if_neg h0, if_neg h1, if_neg h2, if_neg h3, if_pos h4]; subst h4; exact ru_tabI f_M_about_36 (by decide) rfl rfl
  by_cases h5 : x = 5
  · rw [if_neg h0, if_neg h1, if_neg h2, if_neg h3, if_neg h4, if_pos h5]; subst h5; exact ru_tabI f_M_about_36 (by decide) rfl rfl
  by_cases h6 : x = 6
  · rw [if_neg h0, if_neg h1, if_neg h2, if_neg h3, if_neg h4, if_neg h5, if_pos h6]; subst h6; exact ru_tabI f_M_about_36 (by decide) rfl rfl
  by_cases h7 : x = 7
  · rw [if_neg h0, if_neg h1, if_neg h2, if_neg h3, if_neg h4, if_neg h5, if_neg h6, if_pos h7]; subst h7; exact ru_tabI f_M_about_36 (by decide) rfl rfl
  by_cases h8 : x = 8
  · rw [if_neg h0, if_neg h1, if_neg h2, if_neg h3, if_neg h4, if_neg h5, if_neg h6, if_neg h7, if_pos h8]; subst h8; exact ru_tabI f_M_about_36 (by decide) rfl rfl
  rw [if_neg h0, if_neg h1, if_neg h2, if_neg h3, if_neg h4, if_neg h5, if_neg h6, if_neg h7, if_neg h8]
  have e0 : ¬ x.toInt = 0 := fun z => h0 (Int32.toInt_inj.mp (z.trans (by decide)))
  have e1 : ¬ x.toInt = 1 := fun z => h1 (Int32.toInt_inj.mp (z.trans (by decide)))
  have e2 : ¬ x.toInt = 2 := fun z => h2 (Int32.toInt_inj.mp (z.trans (by decide)))
  have e3 : ¬ x.toInt = 3 := fun z => h3 (Int32.toInt_inj.mp (z.trans (by decide)))
  have e4 : ¬ x.toInt = 4 := fun z => h4 (Int32.toInt_inj.mp (z.trans (by decide)))
  have e5 : ¬ x.toInt = 5 := fun z => h5 (Int32.toInt_inj.mp (z.trans (by decide)))
  have e6 : ¬ x.toInt = 6 := fun z => h6 (Int32.toInt_inj.mp (z.trans (by decide)))
  have e7 : ¬ x.toInt = 7 := fun z => h7 (Int32.toInt_inj.mp (z.trans (by decide)))
  have e8 : ¬ x.toInt = 8 := fun z => h8 (Int32.toInt_inj.mp (z.trans (by decide)))
  exact ru_tabO f_M_about_36 (by omega) rfl
theorem f_M_about_88 : am_cd k_M_about 88 = some ((some .int), .aload_n 0, (0, 0, 0, 0, 0, .null)) := rfl
theorem s_M_about_88 {a1 a2 a3 : Option Value} {st : List Value} {σ : am_H} {Q : Option Value → am_H → Prop} {x : Nat} : ax k_M_about 88 [some (.ref x), a1, a2, a3] st σ Q = ax k_M_about 89 [some (.ref x), a1, a2, a3] (.ref x :: st) σ Q := ru_loc (q := (_, _)) f_M_about_88 rfl rfl rfl
theorem f_M_about_89 : am_cd k_M_about 89 = some ((some .int), .getfield 151, (11, 1, 918, 0, 0, .null)) := rfl
theorem s_M_about_89 {ls : am_L} {st : List Value} {σ : am_H} {Q : Option Value → am_H → Prop} {a : Nat} : ax k_M_about 89 ls (.ref a :: st) σ Q = ax_f (am_fld σ a 11 1) (fun v => ax k_M_about 92 ls (v :: st) σ Q) := ru_getf f_M_about_89 rfl
theorem f_M_about_92 : am_cd k_M_about 92 = some ((some .int), .ireturn, (0, 0, 0, 0, 0, .null)) := rfl
theorem s_M_about_92 {ls : am_L} {σ : am_H} {Q : Option Value → am_H → Prop} {v : Int32} : ax k_M_about 92 ls [.int v] σ Q = Q (some (.int v)) σ := ru_iretI f_M_about_92
theorem f_M_about_93 : am_cd k_M_about 93 = some ((some .int), .aload_n 0, (0, 0, 0, 0, 0, .null)) := rfl
theorem s_M_about_93 {a1 a2 a3 : Option Value} {st : List Value} {σ : am_H} {Q : Option Value → am_H → Prop} {x : Nat} : ax k_M_about 93 [some (.ref x), a1, a2, a3] st σ Q = ax k_M_about 94 [some (.ref x), a1, a2, a3] (.ref x :: st) σ Q := ru_loc (q := (_, _)) f_M_about_93 rfl rfl rfl
theorem f_M_about_94 : am_cd k_M_about 94 = some ((some .int), .getfield 158, (11, 7, 924, 0, 0, .null)) := rfl
theorem s_M_about_94 {ls : am_L} {st : List Value} {σ : am_H} {Q : Option Value → am_H → Prop} {a : Nat} : ax k_M_about 94 ls (.ref a :: st) σ Q = ax_f (am_fld σ a 11 7) (fun v => ax k_M_about 97 ls (v :: st) σ Q) := ru_getf f_M_about_94 rfl
theorem f_M_about_97 : am_cd k_M_about 97 = some ((some .int), .ireturn, (0, 0, 0, 0, 0, .null)) := rfl
theorem s_M_about_97 {ls : am_L} {σ : am_H} {Q : Option Value → am_H → Prop} {v : Int32} : ax k_M_about 97 ls [.int v] σ Q = Q (some (.int v)) σ := ru_iretI f_M_about_97
theorem f_M_about_98 : am_cd k_M_about 98 = some ((some .int), .aload_n 0, (0, 0, 0, 0, 0, .null)) := rfl
theorem s_M_about_98 {a1 a2 a3 : Option Value} {st : List Value} {σ : am_H} {Q : Option Value → am_H → Prop} {x : Nat} : ax k_M_about 98 [some (.ref x), a1, a2, a3] st σ Q = ax k_M_about 99 [some (.ref x), a1, a2, a3] (.ref x :: st) σ Q := ru_loc (q := (_, _)) f_M_about_98 rfl rfl rfl
theorem f_M_about_99 : am_cd k_M_about 99 = some ((some .int), .getfield 161, (11, 0, 917, 0, 0, .null)) := rfl
theorem s_M_about_99 {ls : am_L} {st : List Value} {σ : am_H} {Q : Option Value → am_H → Prop} {a : Nat} : ax k_M_about 99 ls (.ref a :: st) σ Q = ax_f (am_fld σ a 11 0) (fun v => ax k_M_about 102 ls (v :: st) σ Q) := ru_getf f_M_about_99 rfl
theorem f_M_about_102 : am_cd k_M_about 102 = some ((some .int), .ireturn, (0, 0, 0, 0, 0, .null)) := rfl
theorem s_M_about_102 {ls : am_L} {σ : am_H} {Q : Option Value → am_H → Prop} {v : Int32} : ax k_M_about 102 ls [.int v] σ Q = Q (some (.int v)) σ := ru_iretI f_M_about_102
theorem f_M_about_103 : am_cd k_M_about 103 = some ((some .int), .aload_n 0, (0, 0, 0, 0, 0, .null)) := rfl
theorem s_M_about_103 {a1 a2 a3 : Option Value} {st : List Value} {σ : am_H} {Q : Option Value → am_H → Prop} {x : Nat} : ax k_M_about 103 [some (.ref x), a1, a2, a3] st σ Q = ax k_M_about 104 [some (.ref x), a1, a2, a3] (.ref x :: st) σ Q := ru_loc (q := (_, _)) f_M_about_103 rfl rfl rfl
theorem f_M_about_104 : am_cd k_M_about 104 = some ((some .int), .getfield 293, (11, 45, 962, 0, 0, .null)) := rfl
theorem s_M_about_104 {ls : am_L} {st : List Value} {σ : am_H} {Q : Option Value → am_H → Prop} {a : Nat} : ax k_M_about 104 ls (.ref a :: st) σ Q = ax_f (am_fld σ a 11 45) (fun v => ax k_M_about 107 ls (v :: st) σ Q) := ru_getf f_M_about_104 rfl
theorem f_M_about_107 : am_cd k_M_about 107 = some ((some .int), .ireturn, (0, 0, 0, 0, 0, .null)) := rfl
theorem s_M_about_107 {ls : am_L} {σ : am_H} {Q : Option Value → am_H → Prop} {v : Int32} : ax k_M_about 107 ls [.int v] σ Q = Q (some (.int v)) σ := ru_iretI f_M_about_107
theorem f_M_about_108 : am_cd k_M_about 108 = some ((some .int), .aload_n 0, (0, 0, 0, 0, 0, .null)) := rfl
theorem s_M_about_108 {a1 a2 a3 : Option Value} {st : List Value} {σ : am_H} {Q : Option Value → am_H → Prop} {x : Nat} : ax k_M_about 108 [some (.ref x), a1, a2, a3] st σ Q = ax k_M_about 109 [some (.ref x), a1, a2, a3] (.ref x :: st) σ Q := ru_loc (q := (_, _)) f_M_about_108 rfl rfl rfl
theorem f_M_about_109 : am_cd k_M_about 109 = some ((some .int), .getfield 309, (11, 60, 977, 0, 0, .null)) := rfl
theorem s_M_about_109 {ls : am_L} {st : List Value} {σ : am_H} {Q : Option Value → am_H → Prop} {a : Nat} : ax k_M_about 109 ls (.ref a :: st) σ Q = ax_f (am_fld σ a 11 60) (fun v => ax k_M_about 112 ls (v :: st) σ Q) := ru_getf f_M_about_109 rfl
theorem f_M_about_112 : am_cd k_M_about 112 = some ((some .int), .ireturn, (0, 0, 0, 0, 0, .null)) := rfl
theorem s_M_about_112 {ls : am_L} {σ : am_H} {Q : Option Value → am_H → Prop} {v : Int32} : ax k_M_about 112 ls [.int v] σ Q = Q (some (.int v)) σ := ru_iretI f_M_about_112
theorem f_M_about_113 : am_cd k_M_about 113 = some ((some .int), .iload_n 2, (0, 0, 0, 0, 0, .null)) := rfl
theorem s_M_about_113 {a0 a1 a3 : Option Value} {st : List Value} {σ : am_H} {Q : Option Value → am_H → Prop} {x : Int32} : ax k_M_about 113 [a0, a1, some (.int x), a3] st σ Q = ax k_M_about 114 [a0, a1, some (.int x), a3] (.int x :: st) σ Q := ru_loc (q := (_, _)) f_M_about_113 rfl rfl rfl
theorem f_M_about_114 : am_cd k_M_about 114 = some ((some .int), .ireturn, (0, 0, 0, 0, 0, .null)) := rfl
theorem s_M_about_114 {ls : am_L} {σ : am_H} {Q : Option Value → am_H → Prop} {v : Int32} : ax k_M_about 114 ls [.int v] σ Q = Q (some (.int v)) σ := ru_iretI f_M_about_114
theorem f_M_about_115 : am_cd k_M_about 115 = some ((some .int), .aload_n 0, (0, 0, 0, 0, 0, .null)) := rfl
theorem s_M_about_115 {a1 a2 a3 : Option Value} {st : List Value} {σ : am_H} {Q : Option Value → am_H → Prop} {x : Nat} : ax k_M_about 115 [some (.ref x), a1, a2, a3] st σ Q = ax k_M_about 116 [some (.ref x), a1, a2, a3] (.ref x :: st) σ Q := ru_loc (q := (_, _)) f_M_about_115 rfl rfl rfl
theorem f_M_about_116 : am_cd k_M_about 116 = some ((some .int), .getfield 47, (11, 18, 935, 0, 0, .null)) := rfl
theorem s_M_about_116 {ls : am_L} {st : List Value} {σ : am_H} {Q : Option Value → am_H → Prop} {a : Nat} : ax k_M_about 116 ls (.ref a :: st) σ Q = ax_f (am_fld σ a 11 18) (fun v => ax k_M_about 119 ls (v :: st) σ Q) := ru_getf f_M_about_116 rfl
theorem f_M_about_119 : am_cd k_M_about 119 = some ((some .int), .ireturn, (0, 0, 0, 0, 0, .null)) := rfl
theorem s_M_about_119 {ls : am_L} {σ : am_H} {Q : Option Value → am_H → Prop} {v : Int32} : ax k_M_about 119 ls [.int v] σ Q = Q (some (.int v)) σ := ru_iretI f_M_about_119
theorem f_M_about_120 : am_cd k_M_about 120 = some ((some .int), .aload_n 0, (0, 0, 0, 0, 0, .null)) := rfl
theorem s_M_about_120 {a1 a2 a3 : Option Value} {st : List Value} {σ : am_H} {Q : Option Value → am_H → Prop} {x : Nat} : ax k_M_about 120 [some (.ref x), a1, a2, a3] st σ Q = ax k_M_about 121 [some (.ref x), a1, a2, a3] (.ref x :: st) σ Q := ru_loc (q := (_, _)) f_M_about_120 rfl rfl rfl
theorem f_M_about_121 : am_cd k_M_about 121 = some ((some .int), .getfield 145, (11, 59, 976, 0, 0, .null)) := rfl
theorem s_M_about_121 {ls : am_L} {st : List Value} {σ : am_H} {Q : Option Value → am_H → Prop} {a : Nat} : ax k_M_about 121 ls (.ref a :: st) σ Q = ax_f (am_fld σ a 11 59) (fun v => ax k_M_about 124 ls (v :: st) σ Q) := ru_getf f_M_about_121 rfl
theorem f_M_about_124 : am_cd k_M_about 124 = some ((some .int), .ireturn, (0, 0, 0, 0, 0, .null)) := rfl
theorem s_M_about_124 {ls : am_L} {σ : am_H} {Q : Option Value → am_H → Prop} {v : Int32} : ax k_M_about 124 ls [.int v] σ Q = Q (some (.int v)) σ := ru_iretI f_M_about_124
theorem f_M_about_125 : am_cd k_M_about 125 = some ((some .int), .aload_n 0, (0, 0, 0, 0, 0, .null)) := rfl
theorem s_M_about_125 {a1 a2 a3 : Option Value} {st : List Value} {σ : am_H} {Q : Option Value → am_H → Prop} {x : Nat} : ax k_M_about 125 [some (.ref x), a1, a2, a3] st σ Q = ax k_M_about 126 [some (.ref x), a1, a2, a3] (.ref x :: st) σ Q := ru_loc (q := (_, _)) f_M_about_125 rfl rfl rfl
theorem f_M_about_126 : am_cd k_M_about 126 = some ((some .int), .getfield 232, (11, 29, 946, 0, 0, .null)) := rfl
theorem s_M_about_126 {ls : am_L} {st : List Value} {σ : am_H} {Q : Option Value → am_H → Prop} {a : Nat} : ax k_M_about 126 ls (.ref a :: st) σ Q = ax_f (am_fld σ a 11 29) (fun v => ax k_M_about 129 ls (v :: st) σ Q) := ru_getf f_M_about_126 rfl
theorem f_M_about_129 : am_cd k_M_about 129 = some ((some .int), .ireturn, (0, 0, 0, 0, 0, .null)) := rfl
theorem s_M_about_129 {ls : am_L} {σ : am_H} {Q : Option Value → am_H → Prop} {v : Int32} : ax k_M_about 129 ls [.int v] σ Q = Q (some (.int v)) σ := ru_iretI f_M_about_129
theorem f_M_about_130 : am_cd k_M_about 130 = some ((some .int), .iconst (-1), (0, 0, 0, 0, 0, .null)) := rfl
theorem s_M_about_130 {ls : am_L} {st : List Value} {σ : am_H} {Q : Option Value → am_H → Prop} : ax k_M_about 130 ls st σ Q = ax k_M_about 131 ls (.int (-1) :: st) σ Q := ru_iconst f_M_about_130 (by decide +kernel) rfl
theorem f_M_about_131 : am_cd k_M_about 131 = some ((some .int), .ireturn, (0, 0, 0, 0, 0, .null)) := rfl
theorem s_M_about_131 {ls : am_L} {σ : am_H} {Q : Option Value → am_H → Prop} {v : Int32} : ax k_M_about 131 ls [.int v] σ Q = Q (some (.int v)) σ := ru_iretI f_M_about_131
