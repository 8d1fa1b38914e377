/-! rules of the code, by program -/
theorem f_A_init_0 : am_cd k_A_init 0 = some (none, .aload_n 0, (0, 0, 0, 0, 0, .null)) := rfl
theorem s_A_init_0 {st : List Value} {σ : am_H} {Q : Option Value → am_H → Prop} {x : Nat} : ax k_A_init 0 [some (.ref x)] st σ Q = ax k_A_init 1 [some (.ref x)] (.ref x :: st) σ Q := ru_loc (q := (_, _)) f_A_init_0 rfl rfl rfl
theorem f_A_init_1 : am_cd k_A_init 1 = some (none, .invokespecial 1, (99999, 0, 77, 0, 0, .null)) := rfl
theorem s_A_init_1 {ls : am_L} {st : List Value} {σ : am_H} {Q : Option Value → am_H → Prop} {a : Nat} (h8 : am_s8 st) : ax k_A_init 1 ls (.ref a :: st) σ Q = ax k_A_init 4 ls st σ Q := ru_obj f_A_init_1 rfl h8 rfl
theorem f_A_init_4 : am_cd k_A_init 4 = some (none, .aload_n 0, (0, 0, 0, 0, 0, .null)) := rfl
theorem s_A_init_4 {st : List Value} {σ : am_H} {Q : Option Value → am_H → Prop} {x : Nat} : ax k_A_init 4 [some (.ref x)] st σ Q = ax k_A_init 5 [some (.ref x)] (.ref x :: st) σ Q := ru_loc (q := (_, _)) f_A_init_4 rfl rfl rfl
theorem f_A_init_5 : am_cd k_A_init 5 = some (none, .new 7, (9, 5, 80, 0, 0, .null)) := rfl
theorem s_A_init_5 {ls : am_L} {st : List Value} {σ : am_H} {Q : Option Value → am_H → Prop} : ax k_A_init 5 ls st σ Q = (σ.1 < am_top ∧ ax k_A_init 8 ls (.ref σ.1 :: st) (am_new σ 5 (am_ob 9 [.null, .null, .null, .null, .int 0])) Q) := ru_new f_A_init_5 rfl rfl
theorem f_A_init_8 : am_cd k_A_init 8 = some (none, .dup, (0, 0, 0, 0, 0, .null)) := rfl
theorem s_A_init_8 {ls : am_L} {st : List Value} {σ : am_H} {Q : Option Value → am_H → Prop} {a : Nat} : ax k_A_init 8 ls (.ref a :: st) σ Q = ax k_A_init 9 ls (.ref a :: .ref a :: st) σ Q := ru_pure f_A_init_8 rfl rfl
theorem f_A_init_9 : am_cd k_A_init 9 = some (none, .invokespecial 9, (59, 0, 0, 1, 9, .null)) := rfl
theorem s_A_init_9 {ls : am_L} {st : List Value} {σ : am_H} {Q : Option Value → am_H → Prop} {b : Nat} (h8 : am_s8 st) : ax k_A_init 9 ls (.ref b :: st) σ Q = ax k_WordTree_init 0 [some (.ref b)] [] σ (ax_k k_A_init 12 ls st Q) := ru_spc (M' := rk_WordTree_init) f_A_init_9 rfl (by decide) rfl rfl h8 rfl rfl rfl rfl rfl
theorem f_A_init_12 : am_cd k_A_init 12 = some (none, .putfield 10, (10, 0, 280, 0, 3, .null)) := rfl
theorem s_A_init_12 {ls : am_L} {st : List Value} {σ : am_H} {Q : Option Value → am_H → Prop} {a : Nat} {v : Value} : ax k_A_init 12 ls (v :: .ref a :: st) σ Q = ax_f (am_fld σ a 10 0) (fun _ => a < am_top ∧ am_okv 3 v = true ∧ ax k_A_init 15 ls st (am_put σ a 0 v) Q) := ru_putf f_A_init_12 rfl
theorem f_A_init_15 : am_cd k_A_init 15 = some (none, .aload_n 0, (0, 0, 0, 0, 0, .null)) := rfl
theorem s_A_init_15 {st : List Value} {σ : am_H} {Q : Option Value → am_H → Prop} {x : Nat} : ax k_A_init 15 [some (.ref x)] st σ Q = ax k_A_init 16 [some (.ref x)] (.ref x :: st) σ Q := ru_loc (q := (_, _)) f_A_init_15 rfl rfl rfl
theorem f_A_init_16 : am_cd k_A_init 16 = some (none, .new 16, (0, 8, 126, 0, 0, .null)) := rfl
theorem s_A_init_16 {ls : am_L} {st : List Value} {σ : am_H} {Q : Option Value → am_H → Prop} : ax k_A_init 16 ls st σ Q = (σ.1 < am_top ∧ ax k_A_init 19 ls (.ref σ.1 :: st) (am_new σ 8 (am_ob 0 [.null, .null, .null, .null, .null, .null, .int 0, .int 0])) Q) := ru_new f_A_init_16 rfl rfl
theorem f_A_init_19 : am_cd k_A_init 19 = some (none, .dup, (0, 0, 0, 0, 0, .null)) := rfl
theorem s_A_init_19 {ls : am_L} {st : List Value} {σ : am_H} {Q : Option Value → am_H → Prop} {a : Nat} : ax k_A_init 19 ls (.ref a :: st) σ Q = ax k_A_init 20 ls (.ref a :: .ref a :: st) σ Q := ru_pure f_A_init_19 rfl rfl
theorem f_A_init_20 : am_cd k_A_init 20 = some (none, .invokespecial 18, (0, 0, 2, 1, 0, .null)) := rfl
theorem s_A_init_20 {ls : am_L} {st : List Value} {σ : am_H} {Q : Option Value → am_H → Prop} {b : Nat} (h8 : am_s8 st) : ax k_A_init 20 ls (.ref b :: st) σ Q = ax k_Album_init 0 [some (.ref b)] [] σ (ax_k k_A_init 23 ls st Q) := ru_spc (M' := rk_Album_init) f_A_init_20 rfl (by decide) rfl rfl h8 rfl rfl rfl rfl rfl
theorem f_A_init_23 : am_cd k_A_init 23 = some (none, .putfield 19, (10, 1, 281, 0, 3, .null)) := rfl
theorem s_A_init_23 {ls : am_L} {st : List Value} {σ : am_H} {Q : Option Value → am_H → Prop} {a : Nat} {v : Value} : ax k_A_init 23 ls (v :: .ref a :: st) σ Q = ax_f (am_fld σ a 10 1) (fun _ => a < am_top ∧ am_okv 3 v = true ∧ ax k_A_init 26 ls st (am_put σ a 1 v) Q) := ru_putf f_A_init_23 rfl
theorem f_A_init_26 : am_cd k_A_init 26 = some (none, .aload_n 0, (0, 0, 0, 0, 0, .null)) := rfl
theorem s_A_init_26 {st : List Value} {σ : am_H} {Q : Option Value → am_H → Prop} {x : Nat} : ax k_A_init 26 [some (.ref x)] st σ Q = ax k_A_init 27 [some (.ref x)] (.ref x :: st) σ Q := ru_loc (q := (_, _)) f_A_init_26 rfl rfl rfl
theorem f_A_init_27 : am_cd k_A_init 27 = some (none, .new 23, (1, 2, 160, 0, 0, .null)) := rfl
theorem s_A_init_27 {ls : am_L} {st : List Value} {σ : am_H} {Q : Option Value → am_H → Prop} : ax k_A_init 27 ls st σ Q = (σ.1 < am_top ∧ ax k_A_init 30 ls (.ref σ.1 :: st) (am_new σ 2 (am_ob 1 [.null, .null])) Q) := ru_new f_A_init_27 rfl rfl
theorem f_A_init_30 : am_cd k_A_init 30 = some (none, .dup, (0, 0, 0, 0, 0, .null)) := rfl
theorem s_A_init_30 {ls : am_L} {st : List Value} {σ : am_H} {Q : Option Value → am_H → Prop} {a : Nat} : ax k_A_init 30 ls (.ref a :: st) σ Q = ax k_A_init 31 ls (.ref a :: .ref a :: st) σ Q := ru_pure f_A_init_30 rfl rfl
theorem f_A_init_31 : am_cd k_A_init 31 = some (none, .invokespecial 25, (9, 0, 5, 1, 1, .null)) := rfl
theorem s_A_init_31 {ls : am_L} {st : List Value} {σ : am_H} {Q : Option Value → am_H → Prop} {b : Nat} (h8 : am_s8 st) : ax k_A_init 31 ls (.ref b :: st) σ Q = ax k_Captions_init 0 [some (.ref b)] [] σ (ax_k k_A_init 34 ls st Q) := ru_spc (M' := rk_Captions_init) f_A_init_31 rfl (by decide) rfl rfl h8 rfl rfl rfl rfl rfl
theorem f_A_init_34 : am_cd k_A_init 34 = some (none, .putfield 26, (10, 2, 282, 0, 3, .null)) := rfl
theorem s_A_init_34 {ls : am_L} {st : List Value} {σ : am_H} {Q : Option Value → am_H → Prop} {a : Nat} {v : Value} : ax k_A_init 34 ls (v :: .ref a :: st) σ Q = ax_f (am_fld σ a 10 2) (fun _ => a < am_top ∧ am_okv 3 v = true ∧ ax k_A_init 37 ls st (am_put σ a 2 v) Q) := ru_putf f_A_init_34 rfl
theorem f_A_init_37 : am_cd k_A_init 37 = some (none, .aload_n 0, (0, 0, 0, 0, 0, .null)) := rfl
theorem s_A_init_37 {st : List Value} {σ : am_H} {Q : Option Value → am_H → Prop} {x : Nat} : ax k_A_init 37 [some (.ref x)] st σ Q = ax k_A_init 38 [some (.ref x)] (.ref x :: st) σ Q := ru_loc (q := (_, _)) f_A_init_37 rfl rfl rfl
theorem f_A_init_38 : am_cd k_A_init 38 = some (none, .new 30, (3, 4, 175, 0, 0, .null)) := rfl
theorem s_A_init_38 {ls : am_L} {st : List Value} {σ : am_H} {Q : Option Value → am_H → Prop} : ax k_A_init 38 ls st σ Q = (σ.1 < am_top ∧ ax k_A_init 41 ls (.ref σ.1 :: st) (am_new σ 4 (am_ob 3 [.null, .null, .null, .int 0])) Q) := ru_new f_A_init_38 rfl rfl
theorem f_A_init_41 : am_cd k_A_init 41 = some (none, .dup, (0, 0, 0, 0, 0, .null)) := rfl
theorem s_A_init_41 {ls : am_L} {st : List Value} {σ : am_H} {Q : Option Value → am_H → Prop} {a : Nat} : ax k_A_init 41 ls (.ref a :: st) σ Q = ax k_A_init 42 ls (.ref a :: .ref a :: st) σ Q := ru_pure f_A_init_41 rfl rfl
theorem f_A_init_42 : am_cd k_A_init 42 = some (none, .bipush 100, (0, 0, 0, 0, 0, .null)) := rfl
theorem s_A_init_42 {ls : am_L} {st : List Value} {σ : am_H} {Q : Option Value → am_H → Prop} : ax k_A_init 42 ls st σ Q = ax k_A_init 44 ls (.int 100 :: st) σ Q := ru_bipush f_A_init_42 (by decide +kernel) rfl
theorem f_A_init_44 : am_cd k_A_init 44 = some (none, .invokespecial 32, (23, 1, 176, 0, 3, .null)) := rfl
theorem s_A_init_44 {ls : am_L} {st : List Value} {σ : am_H} {Q : Option Value → am_H → Prop} {p0 : Int32} {b : Nat} (h8 : am_s8 st) : ax k_A_init 44 ls (.int p0 :: .ref b :: st) σ Q = ax k_Log_init 0 [some (.ref b), some (.int p0), none] [] σ (ax_k k_A_init 47 ls st Q) := ru_spc (M' := rk_Log_init) f_A_init_44 rfl (by decide) rfl rfl h8 rfl rfl rfl rfl rfl
theorem f_A_init_47 : am_cd k_A_init 47 = some (none, .putfield 35, (10, 3, 283, 0, 3, .null)) := rfl
theorem s_A_init_47 {ls : am_L} {st : List Value} {σ : am_H} {Q : Option Value → am_H → Prop} {a : Nat} {v : Value} : ax k_A_init 47 ls (v :: .ref a :: st) σ Q = ax_f (am_fld σ a 10 3) (fun _ => a < am_top ∧ am_okv 3 v = true ∧ ax k_A_init 50 ls st (am_put σ a 3 v) Q) := ru_putf f_A_init_47 rfl
theorem f_A_init_50 : am_cd k_A_init 50 = some (none, .aload_n 0, (0, 0, 0, 0, 0, .null)) := rfl
theorem s_A_init_50 {st : List Value} {σ : am_H} {Q : Option Value → am_H → Prop} {x : Nat} : ax k_A_init 50 [some (.ref x)] st σ Q = ax k_A_init 51 [some (.ref x)] (.ref x :: st) σ Q := ru_loc (q := (_, _)) f_A_init_50 rfl rfl rfl
theorem f_A_init_51 : am_cd k_A_init 51 = some (none, .new 30, (3, 4, 175, 0, 0, .null)) := rfl
theorem s_A_init_51 {ls : am_L} {st : List Value} {σ : am_H} {Q : Option Value → am_H → Prop} : ax k_A_init 51 ls st σ Q = (σ.1 < am_top ∧ ax k_A_init 54 ls (.ref σ.1 :: st) (am_new σ 4 (am_ob 3 [.null, .null, .null, .int 0])) Q) := ru_new f_A_init_51 rfl rfl
theorem f_A_init_54 : am_cd k_A_init 54 = some (none, .dup, (0, 0, 0, 0, 0, .null)) := rfl
theorem s_A_init_54 {ls : am_L} {st : List Value} {σ : am_H} {Q : Option Value → am_H → Prop} {a : Nat} : ax k_A_init 54 ls (.ref a :: st) σ Q = ax k_A_init 55 ls (.ref a :: .ref a :: st) σ Q := ru_pure f_A_init_54 rfl rfl
theorem f_A_init_55 : am_cd k_A_init 55 = some (none, .bipush 100, (0, 0, 0, 0, 0, .null)) := rfl
theorem s_A_init_55 {ls : am_L} {st : List Value} {σ : am_H} {Q : Option Value → am_H → Prop} : ax k_A_init 55 ls st σ Q = ax k_A_init 57 ls (.int 100 :: st) σ Q := ru_bipush f_A_init_55 (by decide +kernel) rfl
theorem f_A_init_57 : am_cd k_A_init 57 = some (none, .invokespecial 32, (23, 1, 176, 0, 3, .null)) := rfl
theorem s_A_init_57 {ls : am_L} {st : List Value} {σ : am_H} {Q : Option Value → am_H → Prop} {p0 : Int32} {b : Nat} (h8 : am_s8 st) : ax k_A_init 57 ls (.int p0 :: .ref b :: st) σ Q = ax k_Log_init 0 [some (.ref b), some (.int p0), none] [] σ (ax_k k_A_init 60 ls st Q) := ru_spc (M' := rk_Log_init) f_A_init_57 rfl (by decide) rfl rfl h8 rfl rfl rfl rfl rfl
theorem f_A_init_60 : am_cd k_A_init 60 = some (none, .putfield 39, (10, 4, 284, 0, 3, .null)) := rfl
theorem s_A_init_60 {ls : am_L} {st : List Value} {σ : am_H} {Q : Option Value → am_H → Prop} {a : Nat} {v : Value} : ax k_A_init 60 ls (v :: .ref a :: st) σ Q = ax_f (am_fld σ a 10 4) (fun _ => a < am_top ∧ am_okv 3 v = true ∧ ax k_A_init 63 ls st (am_put σ a 4 v) Q) := ru_putf f_A_init_60 rfl
theorem f_A_init_63 : am_cd k_A_init 63 = some (none, .aload_n 0, (0, 0, 0, 0, 0, .null)) := rfl
theorem s_A_init_63 {st : List Value} {σ : am_H} {Q : Option Value → am_H → Prop} {x : Nat} : ax k_A_init 63 [some (.ref x)] st σ Q = ax k_A_init 64 [some (.ref x)] (.ref x :: st) σ Q := ru_loc (q := (_, _)) f_A_init_63 rfl rfl rfl
theorem f_A_init_64 : am_cd k_A_init 64 = some (none, .new 42, (4, 11, 177, 0, 0, .null)) := rfl
theorem s_A_init_64 {ls : am_L} {st : List Value} {σ : am_H} {Q : Option Value → am_H → Prop} : ax k_A_init 64 ls st σ Q = (σ.1 < am_top ∧ ax k_A_init 67 ls (.ref σ.1 :: st) (am_new σ 11 (am_ob 4 [.null, .int 0, .int 0, .int 0, .null, .int 0, .int 0, .int 0, .int 0, .int 0, .int 0])) Q) := ru_new f_A_init_64 rfl rfl
theorem f_A_init_67 : am_cd k_A_init 67 = some (none, .dup, (0, 0, 0, 0, 0, .null)) := rfl
theorem s_A_init_67 {ls : am_L} {st : List Value} {σ : am_H} {Q : Option Value → am_H → Prop} {a : Nat} : ax k_A_init 67 ls (.ref a :: st) σ Q = ax k_A_init 68 ls (.ref a :: .ref a :: st) σ Q := ru_pure f_A_init_67 rfl rfl
theorem f_A_init_68 : am_cd k_A_init 68 = some (none, .invokespecial 44, (29, 0, 6, 1, 4, .null)) := rfl
theorem s_A_init_68 {ls : am_L} {st : List Value} {σ : am_H} {Q : Option Value → am_H → Prop} {b : Nat} (h8 : am_s8 st) : ax k_A_init 68 ls (.ref b :: st) σ Q = ax k_Reader_init 0 [some (.ref b)] [] σ (ax_k k_A_init 71 ls st Q) := ru_spc (M' := rk_Reader_init) f_A_init_68 rfl (by decide) rfl rfl h8 rfl rfl rfl rfl rfl
theorem f_A_init_71 : am_cd k_A_init 71 = some (none, .putfield 45, (10, 5, 285, 0, 3, .null)) := rfl
theorem s_A_init_71 {ls : am_L} {st : List Value} {σ : am_H} {Q : Option Value → am_H → Prop} {a : Nat} {v : Value} : ax k_A_init 71 ls (v :: .ref a :: st) σ Q = ax_f (am_fld σ a 10 5) (fun _ => a < am_top ∧ am_okv 3 v = true ∧ ax k_A_init 74 ls st (am_put σ a 5 v) Q) := ru_putf f_A_init_71 rfl
theorem f_A_init_74 : am_cd k_A_init 74 = some (none, .aload_n 0, (0, 0, 0, 0, 0, .null)) := rfl
theorem s_A_init_74 {st : List Value} {σ : am_H} {Q : Option Value → am_H → Prop} {x : Nat} : ax k_A_init 74 [some (.ref x)] st σ Q = ax k_A_init 75 [some (.ref x)] (.ref x :: st) σ Q := ru_loc (q := (_, _)) f_A_init_74 rfl rfl rfl
theorem f_A_init_75 : am_cd k_A_init 75 = some (none, .aload_n 0, (0, 0, 0, 0, 0, .null)) := rfl
theorem s_A_init_75 {st : List Value} {σ : am_H} {Q : Option Value → am_H → Prop} {x : Nat} : ax k_A_init 75 [some (.ref x)] st σ Q = ax k_A_init 76 [some (.ref x)] (.ref x :: st) σ Q := ru_loc (q := (_, _)) f_A_init_75 rfl rfl rfl
theorem f_A_init_76 : am_cd k_A_init 76 = some (none, .getfield 45, (10, 5, 285, 0, 3, .null)) := rfl
theorem s_A_init_76 {ls : am_L} {st : List Value} {σ : am_H} {Q : Option Value → am_H → Prop} {a : Nat} : ax k_A_init 76 ls (.ref a :: st) σ Q = ax_f (am_fld σ a 10 5) (fun v => ax k_A_init 79 ls (v :: st) σ Q) := ru_getf f_A_init_76 rfl
theorem f_A_init_79 : am_cd k_A_init 79 = some (none, .getfield 49, (4, 0, 9, 1, 3, .null)) := rfl
theorem s_A_init_79 {ls : am_L} {st : List Value} {σ : am_H} {Q : Option Value → am_H → Prop} {a : Nat} : ax k_A_init 79 ls (.ref a :: st) σ Q = ax_f (am_fld σ a 4 0) (fun v => ax k_A_init 82 ls (v :: st) σ Q) := ru_getf f_A_init_79 rfl
theorem f_A_init_82 : am_cd k_A_init 82 = some (none, .putfield 53, (10, 6, 286, 0, 3, .null)) := rfl
theorem s_A_init_82 {ls : am_L} {st : List Value} {σ : am_H} {Q : Option Value → am_H → Prop} {a : Nat} {v : Value} : ax k_A_init 82 ls (v :: .ref a :: st) σ Q = ax_f (am_fld σ a 10 6) (fun _ => a < am_top ∧ am_okv 3 v = true ∧ ax k_A_init 85 ls st (am_put σ a 6 v) Q) := ru_putf f_A_init_82 rfl
theorem f_A_init_85 : am_cd k_A_init 85 = some (none, .aload_n 0, (0, 0, 0, 0, 0, .null)) := rfl
theorem s_A_init_85 {st : List Value} {σ : am_H} {Q : Option Value → am_H → Prop} {x : Nat} : ax k_A_init 85 [some (.ref x)] st σ Q = ax k_A_init 86 [some (.ref x)] (.ref x :: st) σ Q := ru_loc (q := (_, _)) f_A_init_85 rfl rfl rfl
theorem f_A_init_86 : am_cd k_A_init 86 = some (none, .new 54, (6, 2, 235, 0, 0, .null)) := rfl
theorem s_A_init_86 {ls : am_L} {st : List Value} {σ : am_H} {Q : Option Value → am_H → Prop} : ax k_A_init 86 ls st σ Q = (σ.1 < am_top ∧ ax k_A_init 89 ls (.ref σ.1 :: st) (am_new σ 2 (am_ob 6 [.null, .null])) Q) := ru_new f_A_init_86 rfl rfl
theorem f_A_init_89 : am_cd k_A_init 89 = some (none, .dup, (0, 0, 0, 0, 0, .null)) := rfl
theorem s_A_init_89 {ls : am_L} {st : List Value} {σ : am_H} {Q : Option Value → am_H → Prop} {a : Nat} : ax k_A_init 89 ls (.ref a :: st) σ Q = ax k_A_init 90 ls (.ref a :: .ref a :: st) σ Q := ru_pure f_A_init_89 rfl rfl
theorem f_A_init_90 : am_cd k_A_init 90 = some (none, .invokespecial 56, (50, 0, 13, 1, 6, .null)) := rfl
theorem s_A_init_90 {ls : am_L} {st : List Value} {σ : am_H} {Q : Option Value → am_H → Prop} {b : Nat} (h8 : am_s8 st) : ax k_A_init 90 ls (.ref b :: st) σ Q = ax k_Shelf_init 0 [some (.ref b)] [] σ (ax_k k_A_init 93 ls st Q) := ru_spc (M' := rk_Shelf_init) f_A_init_90 rfl (by decide) rfl rfl h8 rfl rfl rfl rfl rfl
theorem f_A_init_93 : am_cd k_A_init 93 = some (none, .putfield 57, (10, 7, 287, 0, 3, .null)) := rfl
theorem s_A_init_93 {ls : am_L} {st : List Value} {σ : am_H} {Q : Option Value → am_H → Prop} {a : Nat} {v : Value} : ax k_A_init 93 ls (v :: .ref a :: st) σ Q = ax_f (am_fld σ a 10 7) (fun _ => a < am_top ∧ am_okv 3 v = true ∧ ax k_A_init 96 ls st (am_put σ a 7 v) Q) := ru_putf f_A_init_93 rfl
theorem f_A_init_96 : am_cd k_A_init 96 = some (none, .aload_n 0, (0, 0, 0, 0, 0, .null)) := rfl
theorem s_A_init_96 {st : List Value} {σ : am_H} {Q : Option Value → am_H → Prop} {x : Nat} : ax k_A_init 96 [some (.ref x)] st σ Q = ax k_A_init 97 [some (.ref x)] (.ref x :: st) σ Q := ru_loc (q := (_, _)) f_A_init_96 rfl rfl rfl
theorem f_A_init_97 : am_cd k_A_init 97 = some (none, .new 61, (2, 5, 250, 0, 0, .null)) := rfl
theorem s_A_init_97 {ls : am_L} {st : List Value} {σ : am_H} {Q : Option Value → am_H → Prop} : ax k_A_init 97 ls st σ Q = (σ.1 < am_top ∧ ax k_A_init 100 ls (.ref σ.1 :: st) (am_new σ 5 (am_ob 2 [.null, .null, .int 0, .int 0, .int 0])) Q) := ru_new f_A_init_97 rfl rfl
theorem f_A_init_100 : am_cd k_A_init 100 = some (none, .dup, (0, 0, 0, 0, 0, .null)) := rfl
theorem s_A_init_100 {ls : am_L} {st : List Value} {σ : am_H} {Q : Option Value → am_H → Prop} {a : Nat} : ax k_A_init 100 ls (.ref a :: st) σ Q = ax k_A_init 101 ls (.ref a :: .ref a :: st) σ Q := ru_pure f_A_init_100 rfl rfl
theorem f_A_init_101 : am_cd k_A_init 101 = some (none, .invokespecial 63, (13, 0, 14, 1, 2, .null)) := rfl
theorem s_A_init_101 {ls : am_L} {st : List Value} {σ : am_H} {Q : Option Value → am_H → Prop} {b : Nat} (h8 : am_s8 st) : ax k_A_init 101 ls (.ref b :: st) σ Q = ax k_Ledger_init 0 [some (.ref b)] [] σ (ax_k k_A_init 104 ls st Q) := ru_spc (M' := rk_Ledger_init) f_A_init_101 rfl (by decide) rfl rfl h8 rfl rfl rfl rfl rfl
theorem f_A_init_104 : am_cd k_A_init 104 = some (none, .putfield 64, (10, 8, 288, 0, 3, .null)) := rfl
theorem s_A_init_104 {ls : am_L} {st : List Value} {σ : am_H} {Q : Option Value → am_H → Prop} {a : Nat} {v : Value} : ax k_A_init 104 ls (v :: .ref a :: st) σ Q = ax_f (am_fld σ a 10 8) (fun _ => a < am_top ∧ am_okv 3 v = true ∧ ax k_A_init 107 ls st (am_put σ a 8 v) Q) := ru_putf f_A_init_104 rfl
theorem f_A_init_107 : am_cd k_A_init 107 = some (none, .aload_n 0, (0, 0, 0, 0, 0, .null)) := rfl
theorem s_A_init_107 {st : List Value} {σ : am_H} {Q : Option Value → am_H → Prop} {x : Nat} : ax k_A_init 107 [some (.ref x)] st σ Q = ax k_A_init 108 [some (.ref x)] (.ref x :: st) σ Q := ru_loc (q := (_, _)) f_A_init_107 rfl rfl rfl
theorem f_A_init_108 : am_cd k_A_init 108 = some (none, .iconst 5, (0, 0, 0, 0, 0, .null)) := rfl
theorem s_A_init_108 {ls : am_L} {st : List Value} {σ : am_H} {Q : Option Value → am_H → Prop} : ax k_A_init 108 ls st σ Q = ax k_A_init 109 ls (.int 5 :: st) σ Q := ru_iconst f_A_init_108 (by decide +kernel) rfl
theorem f_A_init_109 : am_cd k_A_init 109 = some (none, .newarray .int, (0, 0, 108, 0, 0, .null)) := rfl
theorem s_A_init_109 {ls : am_L} {st : List Value} {σ : am_H} {Q : Option Value → am_H → Prop} {n : Int32} : ax k_A_init 109 ls (.int n :: st) σ Q = (am_mk n σ ∧ ax k_A_init 111 ls (.ref σ.1 :: st) (am_new σ n.toNatClampNeg (am_ia 0 n.toNatClampNeg (fun _ => 0))) Q) := ru_newi f_A_init_109 rfl
theorem f_A_init_111 : am_cd k_A_init 111 = some (none, .putfield 68, (10, 9, 289, 0, 3, .null)) := rfl
theorem s_A_init_111 {ls : am_L} {st : List Value} {σ : am_H} {Q : Option Value → am_H → Prop} {a : Nat} {v : Value} : ax k_A_init 111 ls (v :: .ref a :: st) σ Q = ax_f (am_fld σ a 10 9) (fun _ => a < am_top ∧ am_okv 3 v = true ∧ ax k_A_init 114 ls st (am_put σ a 9 v) Q) := ru_putf f_A_init_111 rfl
theorem f_A_init_114 : am_cd k_A_init 114 = some (none, .aload_n 0, (0, 0, 0, 0, 0, .null)) := rfl
theorem s_A_init_114 {st : List Value} {σ : am_H} {Q : Option Value → am_H → Prop} {x : Nat} : ax k_A_init 114 [some (.ref x)] st σ Q = ax k_A_init 115 [some (.ref x)] (.ref x :: st) σ Q := ru_loc (q := (_, _)) f_A_init_114 rfl rfl rfl
theorem f_A_init_115 : am_cd k_A_init 115 = some (none, .getfield 68, (10, 9, 289, 0, 3, .null)) := rfl
theorem s_A_init_115 {ls : am_L} {st : List Value} {σ : am_H} {Q : Option Value → am_H → Prop} {a : Nat} : ax k_A_init 115 ls (.ref a :: st) σ Q = ax_f (am_fld σ a 10 9) (fun v => ax k_A_init 118 ls (v :: st) σ Q) := ru_getf f_A_init_115 rfl
theorem f_A_init_118 : am_cd k_A_init 118 = some (none, .bipush 100, (0, 0, 0, 0, 0, .null)) := rfl
theorem s_A_init_118 {ls : am_L} {st : List Value} {σ : am_H} {Q : Option Value → am_H → Prop} : ax k_A_init 118 ls st σ Q = ax k_A_init 120 ls (.int 100 :: st) σ Q := ru_bipush f_A_init_118 (by decide +kernel) rfl
theorem f_A_init_120 : am_cd k_A_init 120 = some (none, .invokestatic 72, (181, 2, 277, 0, 12, .null)) := rfl
theorem s_A_init_120 {ls : am_L} {st : List Value} {σ : am_H} {Q : Option Value → am_H → Prop} {p0 : Nat} {p1 : Int32} (h8 : am_s8 st) : ax k_A_init 120 ls (.int p1 :: .ref p0 :: st) σ Q = ax k_Arrays_fill_IIV 0 [some (.ref p0), some (.int p1), none, none] [] σ (ax_k k_A_init 123 ls st Q) := ru_sta (M' := rk_Arrays_fill_IIV) f_A_init_120 rfl (by decide) rfl (by simp) rfl h8 rfl rfl rfl rfl rfl
theorem f_A_init_123 : am_cd k_A_init 123 = some (none, .aload_n 0, (0, 0, 0, 0, 0, .null)) := rfl
theorem s_A_init_123 {st : List Value} {σ : am_H} {Q : Option Value → am_H → Prop} {x : Nat} : ax k_A_init 123 [some (.ref x)] st σ Q = ax k_A_init 124 [some (.ref x)] (.ref x :: st) σ Q := ru_loc (q := (_, _)) f_A_init_123 rfl rfl rfl
theorem f_A_init_124 : am_cd k_A_init 124 = some (none, .bipush 50, (0, 0, 0, 0, 0, .null)) := rfl
theorem s_A_init_124 {ls : am_L} {st : List Value} {σ : am_H} {Q : Option Value → am_H → Prop} : ax k_A_init 124 ls st σ Q = ax k_A_init 126 ls (.int 50 :: st) σ Q := ru_bipush f_A_init_124 (by decide +kernel) rfl
theorem f_A_init_126 : am_cd k_A_init 126 = some (none, .putfield 78, (10, 10, 290, 0, 0, .null)) := rfl
theorem s_A_init_126 {ls : am_L} {st : List Value} {σ : am_H} {Q : Option Value → am_H → Prop} {a : Nat} {v : Value} : ax k_A_init 126 ls (v :: .ref a :: st) σ Q = ax_f (am_fld σ a 10 10) (fun _ => a < am_top ∧ am_okv 0 v = true ∧ ax k_A_init 129 ls st (am_put σ a 10 v) Q) := ru_putf f_A_init_126 rfl
theorem f_A_init_129 : am_cd k_A_init 129 = some (none, .aload_n 0, (0, 0, 0, 0, 0, .null)) := rfl
theorem s_A_init_129 {st : List Value} {σ : am_H} {Q : Option Value → am_H → Prop} {x : Nat} : ax k_A_init 129 [some (.ref x)] st σ Q = ax k_A_init 130 [some (.ref x)] (.ref x :: st) σ Q := ru_loc (q := (_, _)) f_A_init_129 rfl rfl rfl
theorem f_A_init_130 : am_cd k_A_init 130 = some (none, .iconst 0, (0, 0, 0, 0, 0, .null)) := rfl
theorem s_A_init_130 {ls : am_L} {st : List Value} {σ : am_H} {Q : Option Value → am_H → Prop} : ax k_A_init 130 ls st σ Q = ax k_A_init 131 ls (.int 0 :: st) σ Q := ru_iconst f_A_init_130 (by decide +kernel) rfl
theorem f_A_init_131 : am_cd k_A_init 131 = some (none, .putfield 82, (10, 11, 291, 0, 0, .null)) := rfl
theorem s_A_init_131 {ls : am_L} {st : List Value} {σ : am_H} {Q : Option Value → am_H → Prop} {a : Nat} {v : Value} : ax k_A_init 131 ls (v :: .ref a :: st) σ Q = ax_f (am_fld σ a 10 11) (fun _ => a < am_top ∧ am_okv 0 v = true ∧ ax k_A_init 134 ls st (am_put σ a 11 v) Q) := ru_putf f_A_init_131 rfl
theorem f_A_init_134 : am_cd k_A_init 134 = some (none, .return_, (0, 0, 0, 0, 0, .null)) := rfl
theorem s_A_init_134 {ls : am_L} {σ : am_H} {Q : Option Value → am_H → Prop} : ax k_A_init 134 ls ([]) σ Q = Q none σ := ru_ret f_A_init_134 rfl rfl rfl rfl rfl rfl rfl
theorem f_A_minute_0 : am_cd k_A_minute 0 = some ((some .boolean), .iload_n 1, (0, 0, 0, 0, 0, .null)) := rfl
theorem s_A_minute_0 {a0 : Option Value} {st : List Value} {σ : am_H} {Q : Option Value → am_H → Prop} {x : Int32} : ax k_A_minute 0 [a0, some (.int x)] st σ Q = ax k_A_minute 1 [a0, some (.int x)] (.int x :: st) σ Q := ru_loc (q := (_, _)) f_A_minute_0 rfl rfl rfl
theorem f_A_minute_1 : am_cd k_A_minute 1 = some ((some .boolean), .invokestatic 85, (99, 1, 321, 0, 10, .null)) := rfl
theorem s_A_minute_1 {ls : am_L} {st : List Value} {σ : am_H} {Q : Option Value → am_H → Prop} {p0 : Int32} (h8 : am_s8 st) : ax k_A_minute 1 ls (.int p0 :: st) σ Q = ax k_A_isMinute 0 [some (.int p0)] [] σ (ax_k k_A_minute 4 ls st Q) := ru_sta (M' := rk_A_isMinute) f_A_minute_1 rfl (by decide) rfl (by simp) rfl h8 rfl rfl rfl rfl rfl
theorem f_A_minute_4 : am_cd k_A_minute 4 = some ((some .boolean), .ifCond .eq 11, (15, 0, 0, 0, 0, .null)) := rfl
theorem s_A_minute_4 {ls : am_L} {st : List Value} {σ : am_H} {Q : Option Value → am_H → Prop} {x : Int32} : ax k_A_minute 4 ls (.int x :: st) σ Q = (if x = 0 then ax k_A_minute 15 ls st σ Q else ax k_A_minute 7 ls st σ Q) := (ru_if f_A_minute_4 rfl).trans (ru_i_eq _ _ _ _)
theorem f_A_minute_7 : am_cd k_A_minute 7 = some ((some .boolean), .iload_n 1, (0, 0, 0, 0, 0, .null)) := rfl
theorem s_A_minute_7 {a0 : Option Value} {st : List Value} {σ : am_H} {Q : Option Value → am_H → Prop} {x : Int32} : ax k_A_minute 7 [a0, some (.int x)] st σ Q = ax k_A_minute 8 [a0, some (.int x)] (.int x :: st) σ Q := ru_loc (q := (_, _)) f_A_minute_7 rfl rfl rfl
theorem f_A_minute_8 : am_cd k_A_minute 8 = some ((some .boolean), .aload_n 0, (0, 0, 0, 0, 0, .null)) := rfl
theorem s_A_minute_8 {a1 : Option Value} {st : List Value} {σ : am_H} {Q : Option Value → am_H → Prop} {x : Nat} : ax k_A_minute 8 [some (.ref x), a1] st σ Q = ax k_A_minute 9 [some (.ref x), a1] (.ref x :: st) σ Q := ru_loc (q := (_, _)) f_A_minute_8 rfl rfl rfl
theorem f_A_minute_9 : am_cd k_A_minute 9 = some ((some .boolean), .getfield 82, (10, 11, 291, 0, 0, .null)) := rfl
theorem s_A_minute_9 {ls : am_L} {st : List Value} {σ : am_H} {Q : Option Value → am_H → Prop} {a : Nat} : ax k_A_minute 9 ls (.ref a :: st) σ Q = ax_f (am_fld σ a 10 11) (fun v => ax k_A_minute 12 ls (v :: st) σ Q) := ru_getf f_A_minute_9 rfl
theorem f_A_minute_12 : am_cd k_A_minute 12 = some ((some .boolean), .if_icmp .ge 5, (17, 0, 0, 0, 0, .null)) := rfl
theorem s_A_minute_12 {ls : am_L} {st : List Value} {σ : am_H} {Q : Option Value → am_H → Prop} {x y : Int32} : ax k_A_minute 12 ls (.int y :: .int x :: st) σ Q = (if x < y then ax k_A_minute 15 ls st σ Q else ax k_A_minute 17 ls st σ Q) := (ru_icmp f_A_minute_12 rfl).trans (ru_i_ge _ _ _ _)
theorem f_A_minute_15 : am_cd k_A_minute 15 = some ((some .boolean), .iconst 0, (0, 0, 0, 0, 0, .null)) := rfl
theorem s_A_minute_15 {ls : am_L} {st : List Value} {σ : am_H} {Q : Option Value → am_H → Prop} : ax k_A_minute 15 ls st σ Q = ax k_A_minute 16 ls (.int 0 :: st) σ Q := ru_iconst f_A_minute_15 (by decide +kernel) rfl
theorem f_A_minute_16 : am_cd k_A_minute 16 = some ((some .boolean), .ireturn, (0, 0, 0, 0, 0, .null)) := rfl
theorem s_A_minute_16 {ls : am_L} {σ : am_H} {Q : Option Value → am_H → Prop} {v : Int32} : ax k_A_minute 16 ls ([.int v]) σ Q = (am_nar .boolean v = true ∧ Q (some (.int v)) σ) := ru_iret f_A_minute_16
theorem f_A_minute_17 : am_cd k_A_minute 17 = some ((some .boolean), .aload_n 0, (0, 0, 0, 0, 0, .null)) := rfl
theorem s_A_minute_17 {a1 : Option Value} {st : List Value} {σ : am_H} {Q : Option Value → am_H → Prop} {x : Nat} : ax k_A_minute 17 [some (.ref x), a1] st σ Q = ax k_A_minute 18 [some (.ref x), a1] (.ref x :: st) σ Q := ru_loc (q := (_, _)) f_A_minute_17 rfl rfl rfl
theorem f_A_minute_18 : am_cd k_A_minute 18 = some ((some .boolean), .iload_n 1, (0, 0, 0, 0, 0, .null)) := rfl
theorem s_A_minute_18 {a0 : Option Value} {st : List Value} {σ : am_H} {Q : Option Value → am_H → Prop} {x : Int32} : ax k_A_minute 18 [a0, some (.int x)] st σ Q = ax k_A_minute 19 [a0, some (.int x)] (.int x :: st) σ Q := ru_loc (q := (_, _)) f_A_minute_18 rfl rfl rfl
theorem f_A_minute_19 : am_cd k_A_minute 19 = some ((some .boolean), .putfield 82, (10, 11, 291, 0, 0, .null)) := rfl
theorem s_A_minute_19 {ls : am_L} {st : List Value} {σ : am_H} {Q : Option Value → am_H → Prop} {a : Nat} {v : Value} : ax k_A_minute 19 ls (v :: .ref a :: st) σ Q = ax_f (am_fld σ a 10 11) (fun _ => a < am_top ∧ am_okv 0 v = true ∧ ax k_A_minute 22 ls st (am_put σ a 11 v) Q) := ru_putf f_A_minute_19 rfl
theorem f_A_minute_22 : am_cd k_A_minute 22 = some ((some .boolean), .iconst 1, (0, 0, 0, 0, 0, .null)) := rfl
theorem s_A_minute_22 {ls : am_L} {st : List Value} {σ : am_H} {Q : Option Value → am_H → Prop} : ax k_A_minute 22 ls st σ Q = ax k_A_minute 23 ls (.int 1 :: st) σ Q := ru_iconst f_A_minute_22 (by decide +kernel) rfl
theorem f_A_minute_23 : am_cd k_A_minute 23 = some ((some .boolean), .ireturn, (0, 0, 0, 0, 0, .null)) := rfl
theorem s_A_minute_23 {ls : am_L} {σ : am_H} {Q : Option Value → am_H → Prop} {v : Int32} : ax k_A_minute 23 ls ([.int v]) σ Q = (am_nar .boolean v = true ∧ Q (some (.int v)) σ) := ru_iret f_A_minute_23
theorem f_A_word_0 : am_cd k_A_word 0 = some ((some .int), .aload_n 0, (0, 0, 0, 0, 0, .null)) := rfl
theorem s_A_word_0 {a1 : Option Value} {st : List Value} {σ : am_H} {Q : Option Value → am_H → Prop} {x : Nat} : ax k_A_word 0 [some (.ref x), a1] st σ Q = ax k_A_word 1 [some (.ref x), a1] (.ref x :: st) σ Q := ru_loc (q := (_, _)) f_A_word_0 rfl rfl rfl
theorem f_A_word_1 : am_cd k_A_word 1 = some ((some .int), .getfield 10, (10, 0, 280, 0, 3, .null)) := rfl
theorem s_A_word_1 {ls : am_L} {st : List Value} {σ : am_H} {Q : Option Value → am_H → Prop} {a : Nat} : ax k_A_word 1 ls (.ref a :: st) σ Q = ax_f (am_fld σ a 10 0) (fun v => ax k_A_word 4 ls (v :: st) σ Q) := ru_getf f_A_word_1 rfl
theorem f_A_word_4 : am_cd k_A_word 4 = some ((some .int), .iload_n 1, (0, 0, 0, 0, 0, .null)) := rfl
theorem s_A_word_4 {a0 : Option Value} {st : List Value} {σ : am_H} {Q : Option Value → am_H → Prop} {x : Int32} : ax k_A_word 4 [a0, some (.int x)] st σ Q = ax k_A_word 5 [a0, some (.int x)] (.int x :: st) σ Q := ru_loc (q := (_, _)) f_A_word_4 rfl rfl rfl
theorem f_A_word_5 : am_cd k_A_word 5 = some ((some .int), .aload_n 0, (0, 0, 0, 0, 0, .null)) := rfl
theorem s_A_word_5 {a1 : Option Value} {st : List Value} {σ : am_H} {Q : Option Value → am_H → Prop} {x : Nat} : ax k_A_word 5 [some (.ref x), a1] st σ Q = ax k_A_word 6 [some (.ref x), a1] (.ref x :: st) σ Q := ru_loc (q := (_, _)) f_A_word_5 rfl rfl rfl
theorem f_A_word_6 : am_cd k_A_word 6 = some ((some .int), .getfield 82, (10, 11, 291, 0, 0, .null)) := rfl
theorem s_A_word_6 {ls : am_L} {st : List Value} {σ : am_H} {Q : Option Value → am_H → Prop} {a : Nat} : ax k_A_word 6 ls (.ref a :: st) σ Q = ax_f (am_fld σ a 10 11) (fun v => ax k_A_word 9 ls (v :: st) σ Q) := ru_getf f_A_word_6 rfl
theorem f_A_word_9 : am_cd k_A_word 9 = some ((some .int), .invokevirtual 89, (61, 2, 329, 0, 9, .null)) := rfl
theorem s_A_word_9 {ls : am_L} {st : List Value} {σ : am_H} {Q : Option Value → am_H → Prop} {p0 : Int32} {p1 : Int32} {b : Nat} (hi : am_is σ b 9) (h8 : am_s8 st) : ax k_A_word 9 ls (.int p1 :: .int p0 :: .ref b :: st) σ Q = ax k_WordTree_add 0 [some (.ref b), some (.int p0), some (.int p1)] [] σ (ax_k k_A_word 12 ls st Q) := ru_vir (M' := rk_WordTree_add) f_A_word_9 rfl rfl rfl rfl hi h8 rfl rfl rfl rfl rfl
theorem f_A_word_12 : am_cd k_A_word 12 = some ((some .int), .ireturn, (0, 0, 0, 0, 0, .null)) := rfl
theorem s_A_word_12 {ls : am_L} {σ : am_H} {Q : Option Value → am_H → Prop} {v : Int32} : ax k_A_word 12 ls [.int v] σ Q = Q (some (.int v)) σ := ru_iretI f_A_word_12
theorem f_A_put_0 : am_cd k_A_put 0 = some ((some .boolean), .aload_n 0, (0, 0, 0, 0, 0, .null)) := rfl
theorem s_A_put_0 {a1 a2 : Option Value} {st : List Value} {σ : am_H} {Q : Option Value → am_H → Prop} {x : Nat} : ax k_A_put 0 [some (.ref x), a1, a2] st σ Q = ax k_A_put 1 [some (.ref x), a1, a2] (.ref x :: st) σ Q := ru_loc (q := (_, _)) f_A_put_0 rfl rfl rfl
theorem f_A_put_1 : am_cd k_A_put 1 = some ((some .boolean), .getfield 10, (10, 0, 280, 0, 3, .null)) := rfl
theorem s_A_put_1 {ls : am_L} {st : List Value} {σ : am_H} {Q : Option Value → am_H → Prop} {a : Nat} : ax k_A_put 1 ls (.ref a :: st) σ Q = ax_f (am_fld σ a 10 0) (fun v => ax k_A_put 4 ls (v :: st) σ Q) := ru_getf f_A_put_1 rfl
theorem f_A_put_4 : am_cd k_A_put 4 = some ((some .boolean), .iload_n 1, (0, 0, 0, 0, 0, .null)) := rfl
theorem s_A_put_4 {a0 a2 : Option Value} {st : List Value} {σ : am_H} {Q : Option Value → am_H → Prop} {x : Int32} : ax k_A_put 4 [a0, some (.int x), a2] st σ Q = ax k_A_put 5 [a0, some (.int x), a2] (.int x :: st) σ Q := ru_loc (q := (_, _)) f_A_put_4 rfl rfl rfl
theorem f_A_put_5 : am_cd k_A_put 5 = some ((some .boolean), .iload_n 2, (0, 0, 0, 0, 0, .null)) := rfl
theorem s_A_put_5 {a0 a1 : Option Value} {st : List Value} {σ : am_H} {Q : Option Value → am_H → Prop} {x : Int32} : ax k_A_put 5 [a0, a1, some (.int x)] st σ Q = ax k_A_put 6 [a0, a1, some (.int x)] (.int x :: st) σ Q := ru_loc (q := (_, _)) f_A_put_5 rfl rfl rfl
theorem f_A_put_6 : am_cd k_A_put 6 = some ((some .boolean), .aload_n 0, (0, 0, 0, 0, 0, .null)) := rfl
theorem s_A_put_6 {a1 a2 : Option Value} {st : List Value} {σ : am_H} {Q : Option Value → am_H → Prop} {x : Nat} : ax k_A_put 6 [some (.ref x), a1, a2] st σ Q = ax k_A_put 7 [some (.ref x), a1, a2] (.ref x :: st) σ Q := ru_loc (q := (_, _)) f_A_put_6 rfl rfl rfl
theorem f_A_put_7 : am_cd k_A_put 7 = some ((some .boolean), .getfield 82, (10, 11, 291, 0, 0, .null)) := rfl
theorem s_A_put_7 {ls : am_L} {st : List Value} {σ : am_H} {Q : Option Value → am_H → Prop} {a : Nat} : ax k_A_put 7 ls (.ref a :: st) σ Q = ax_f (am_fld σ a 10 11) (fun v => ax k_A_put 10 ls (v :: st) σ Q) := ru_getf f_A_put_7 rfl
theorem f_A_put_10 : am_cd k_A_put 10 = some ((some .boolean), .invokevirtual 93, (62, 3, 345, 0, 9, .null)) := rfl
theorem s_A_put_10 {ls : am_L} {st : List Value} {σ : am_H} {Q : Option Value → am_H → Prop} {p0 : Int32} {p1 : Int32} {p2 : Int32} {b : Nat} (hi : am_is σ b 9) (h8 : am_s8 st) : ax k_A_put 10 ls (.int p2 :: .int p1 :: .int p0 :: .ref b :: st) σ Q = ax k_WordTree_move 0 [some (.ref b), some (.int p0), some (.int p1), some (.int p2)] [] σ (ax_k k_A_put 13 ls st Q) := ru_vir (M' := rk_WordTree_move) f_A_put_10 rfl rfl rfl rfl hi h8 rfl rfl rfl rfl rfl
theorem f_A_put_13 : am_cd k_A_put 13 = some ((some .boolean), .ireturn, (0, 0, 0, 0, 0, .null)) := rfl
theorem s_A_put_13 {ls : am_L} {σ : am_H} {Q : Option Value → am_H → Prop} {v : Int32} : ax k_A_put 13 ls ([.int v]) σ Q = (am_nar .boolean v = true ∧ Q (some (.int v)) σ) := ru_iret f_A_put_13
theorem f_A_within_0 : am_cd k_A_within 0 = some ((some .int), .aload_n 0, (0, 0, 0, 0, 0, .null)) := rfl
theorem s_A_within_0 {a1 a2 : Option Value} {st : List Value} {σ : am_H} {Q : Option Value → am_H → Prop} {x : Nat} : ax k_A_within 0 [some (.ref x), a1, a2] st σ Q = ax k_A_within 1 [some (.ref x), a1, a2] (.ref x :: st) σ Q := ru_loc (q := (_, _)) f_A_within_0 rfl rfl rfl
theorem f_A_within_1 : am_cd k_A_within 1 = some ((some .int), .iload_n 2, (0, 0, 0, 0, 0, .null)) := rfl
theorem s_A_within_1 {a0 a1 : Option Value} {st : List Value} {σ : am_H} {Q : Option Value → am_H → Prop} {x : Int32} : ax k_A_within 1 [a0, a1, some (.int x)] st σ Q = ax k_A_within 2 [a0, a1, some (.int x)] (.int x :: st) σ Q := ru_loc (q := (_, _)) f_A_within_1 rfl rfl rfl
theorem f_A_within_2 : am_cd k_A_within 2 = some ((some .int), .invokevirtual 97, (105, 1, 384, 0, 10, .null)) := rfl
theorem s_A_within_2 {ls : am_L} {st : List Value} {σ : am_H} {Q : Option Value → am_H → Prop} {p0 : Int32} {b : Nat} (hi : am_is σ b 10) (h8 : am_s8 st) : ax k_A_within 2 ls (.int p0 :: .ref b :: st) σ Q = ax k_A_isPast 0 [some (.ref b), some (.int p0)] [] σ (ax_k k_A_within 5 ls st Q) := ru_vir (M' := rk_A_isPast) f_A_within_2 rfl rfl rfl rfl hi h8 rfl rfl rfl rfl rfl
theorem f_A_within_5 : am_cd k_A_within 5 = some ((some .int), .ifCond .eq 15, (20, 0, 0, 0, 0, .null)) := rfl
theorem s_A_within_5 {ls : am_L} {st : List Value} {σ : am_H} {Q : Option Value → am_H → Prop} {x : Int32} : ax k_A_within 5 ls (.int x :: st) σ Q = (if x = 0 then ax k_A_within 20 ls st σ Q else ax k_A_within 8 ls st σ Q) := (ru_if f_A_within_5 rfl).trans (ru_i_eq _ _ _ _)
theorem f_A_within_8 : am_cd k_A_within 8 = some ((some .int), .aload_n 0, (0, 0, 0, 0, 0, .null)) := rfl
theorem s_A_within_8 {a1 a2 : Option Value} {st : List Value} {σ : am_H} {Q : Option Value → am_H → Prop} {x : Nat} : ax k_A_within 8 [some (.ref x), a1, a2] st σ Q = ax k_A_within 9 [some (.ref x), a1, a2] (.ref x :: st) σ Q := ru_loc (q := (_, _)) f_A_within_8 rfl rfl rfl
theorem f_A_within_9 : am_cd k_A_within 9 = some ((some .int), .getfield 10, (10, 0, 280, 0, 3, .null)) := rfl
theorem s_A_within_9 {ls : am_L} {st : List Value} {σ : am_H} {Q : Option Value → am_H → Prop} {a : Nat} : ax k_A_within 9 ls (.ref a :: st) σ Q = ax_f (am_fld σ a 10 0) (fun v => ax k_A_within 12 ls (v :: st) σ Q) := ru_getf f_A_within_9 rfl
theorem f_A_within_12 : am_cd k_A_within 12 = some ((some .int), .iload_n 1, (0, 0, 0, 0, 0, .null)) := rfl
theorem s_A_within_12 {a0 a2 : Option Value} {st : List Value} {σ : am_H} {Q : Option Value → am_H → Prop} {x : Int32} : ax k_A_within 12 [a0, some (.int x), a2] st σ Q = ax k_A_within 13 [a0, some (.int x), a2] (.int x :: st) σ Q := ru_loc (q := (_, _)) f_A_within_12 rfl rfl rfl
theorem f_A_within_13 : am_cd k_A_within 13 = some ((some .int), .iload_n 2, (0, 0, 0, 0, 0, .null)) := rfl
theorem s_A_within_13 {a0 a1 : Option Value} {st : List Value} {σ : am_H} {Q : Option Value → am_H → Prop} {x : Int32} : ax k_A_within 13 [a0, a1, some (.int x)] st σ Q = ax k_A_within 14 [a0, a1, some (.int x)] (.int x :: st) σ Q := ru_loc (q := (_, _)) f_A_within_13 rfl rfl rfl
theorem f_A_within_14 : am_cd k_A_within 14 = some ((some .int), .invokevirtual 100, (63, 2, 388, 0, 9, .null)) := rfl
theorem s_A_within_14 {ls : am_L} {st : List Value} {σ : am_H} {Q : Option Value → am_H → Prop} {p0 : Int32} {p1 : Int32} {b : Nat} (hi : am_is σ b 9) (h8 : am_s8 st) : ax k_A_within 14 ls (.int p1 :: .int p0 :: .ref b :: st) σ Q = ax k_WordTree_parentOf 0 [some (.ref b), some (.int p0), some (.int p1)] [] σ (ax_k k_A_within 17 ls st Q) := ru_vir (M' := rk_WordTree_parentOf) f_A_within_14 rfl rfl rfl rfl hi h8 rfl rfl rfl rfl rfl
theorem f_A_within_17 : am_cd k_A_within 17 = some ((some .int), .goto 4, (21, 0, 0, 0, 0, .null)) := rfl
theorem s_A_within_17 {ls : am_L} {st : List Value} {σ : am_H} {Q : Option Value → am_H → Prop} : ax k_A_within 17 ls st σ Q = ax k_A_within 21 ls st σ Q := ru_goto f_A_within_17
theorem f_A_within_20 : am_cd k_A_within 20 = some ((some .int), .iconst (-1), (0, 0, 0, 0, 0, .null)) := rfl
theorem s_A_within_20 {ls : am_L} {st : List Value} {σ : am_H} {Q : Option Value → am_H → Prop} : ax k_A_within 20 ls st σ Q = ax k_A_within 21 ls (.int (-1) :: st) σ Q := ru_iconst f_A_within_20 (by decide +kernel) rfl
theorem f_A_within_21 : am_cd k_A_within 21 = some ((some .int), .ireturn, (0, 0, 0, 0, 0, .null)) := rfl
theorem s_A_within_21 {ls : am_L} {σ : am_H} {Q : Option Value → am_H → Prop} {v : Int32} : ax k_A_within 21 ls [.int v] σ Q = Q (some (.int v)) σ := ru_iretI f_A_within_21
theorem f_A_picture_0 : am_cd k_A_picture 0 = some ((some .int), .iload 5, (0, 0, 0, 0, 0, .null)) := rfl
theorem s_A_picture_0 {a0 a1 a2 a3 a4 a6 : Option Value} {st : List Value} {σ : am_H} {Q : Option Value → am_H → Prop} {x : Int32} : ax k_A_picture 0 [a0, a1, a2, a3, a4, some (.int x), a6] st σ Q = ax k_A_picture 2 [a0, a1, a2, a3, a4, some (.int x), a6] (.int x :: st) σ Q := ru_loc (q := (_, _)) f_A_picture_0 rfl rfl rfl
theorem f_A_picture_2 : am_cd k_A_picture 2 = some ((some .int), .ifCond .lt 14, (16, 0, 0, 0, 0, .null)) := rfl
theorem s_A_picture_2 {ls : am_L} {st : List Value} {σ : am_H} {Q : Option Value → am_H → Prop} {x : Int32} : ax k_A_picture 2 ls (.int x :: st) σ Q = (if x < 0 then ax k_A_picture 16 ls st σ Q else ax k_A_picture 5 ls st σ Q) := (ru_if f_A_picture_2 rfl).trans (ru_i_lt _ _ _ _)
theorem f_A_picture_5 : am_cd k_A_picture 5 = some ((some .int), .iload 5, (0, 0, 0, 0, 0, .null)) := rfl
theorem s_A_picture_5 {a0 a1 a2 a3 a4 a6 : Option Value} {st : List Value} {σ : am_H} {Q : Option Value → am_H → Prop} {x : Int32} : ax k_A_picture 5 [a0, a1, a2, a3, a4, some (.int x), a6] st σ Q = ax k_A_picture 7 [a0, a1, a2, a3, a4, some (.int x), a6] (.int x :: st) σ Q := ru_loc (q := (_, _)) f_A_picture_5 rfl rfl rfl
theorem f_A_picture_7 : am_cd k_A_picture 7 = some ((some .int), .ldc 103, (0, 0, 400, 0, 0, .int (65536))) := rfl
theorem s_A_picture_7 {ls : am_L} {st : List Value} {σ : am_H} {Q : Option Value → am_H → Prop} : ax k_A_picture 7 ls st σ Q = ax k_A_picture 9 ls (.int (65536) :: st) σ Q := ru_rd f_A_picture_7 rfl rfl rfl rfl rfl
theorem f_A_picture_9 : am_cd k_A_picture 9 = some ((some .int), .if_icmp .ge 7, (16, 0, 0, 0, 0, .null)) := rfl
theorem s_A_picture_9 {ls : am_L} {st : List Value} {σ : am_H} {Q : Option Value → am_H → Prop} {x y : Int32} : ax k_A_picture 9 ls (.int y :: .int x :: st) σ Q = (if x < y then ax k_A_picture 12 ls st σ Q else ax k_A_picture 16 ls st σ Q) := (ru_icmp f_A_picture_9 rfl).trans (ru_i_ge _ _ _ _)
theorem f_A_picture_12 : am_cd k_A_picture 12 = some ((some .int), .iconst 1, (0, 0, 0, 0, 0, .null)) := rfl
theorem s_A_picture_12 {ls : am_L} {st : List Value} {σ : am_H} {Q : Option Value → am_H → Prop} : ax k_A_picture 12 ls st σ Q = ax k_A_picture 13 ls (.int 1 :: st) σ Q := ru_iconst f_A_picture_12 (by decide +kernel) rfl
theorem f_A_picture_13 : am_cd k_A_picture 13 = some ((some .int), .goto 4, (17, 0, 0, 0, 0, .null)) := rfl
theorem s_A_picture_13 {ls : am_L} {st : List Value} {σ : am_H} {Q : Option Value → am_H → Prop} : ax k_A_picture 13 ls st σ Q = ax k_A_picture 17 ls st σ Q := ru_goto f_A_picture_13
theorem f_A_picture_16 : am_cd k_A_picture 16 = some ((some .int), .iconst 0, (0, 0, 0, 0, 0, .null)) := rfl
theorem s_A_picture_16 {ls : am_L} {st : List Value} {σ : am_H} {Q : Option Value → am_H → Prop} : ax k_A_picture 16 ls st σ Q = ax k_A_picture 17 ls (.int 0 :: st) σ Q := ru_iconst f_A_picture_16 (by decide +kernel) rfl
theorem f_A_picture_17 : am_cd k_A_picture 17 = some ((some .int), .istore 6, (0, 0, 0, 0, 0, .null)) := rfl
theorem s_A_picture_17 {a0 a1 a2 a3 a4 a5 a6 : Option Value} {st : List Value} {σ : am_H} {Q : Option Value → am_H → Prop} {x : Int32} (hc : am_c2 a5 = false) : ax k_A_picture 17 [a0, a1, a2, a3, a4, a5, a6] (.int x :: st) σ Q = ax k_A_picture 19 [a0, a1, a2, a3, a4, a5, some (.int x)] st σ Q := ru_istore f_A_picture_17 (Nat.le_of_ble_eq_true rfl) (ru_st1 (Nat.le_of_ble_eq_true rfl) (am_clr_c2 hc rfl) rfl) rfl
theorem f_A_picture_19 : am_cd k_A_picture 19 = some ((some .int), .iload_n 1, (0, 0, 0, 0, 0, .null)) := rfl
theorem s_A_picture_19 {a0 a2 a3 a4 a5 a6 : Option Value} {st : List Value} {σ : am_H} {Q : Option Value → am_H → Prop} {x : Int32} : ax k_A_picture 19 [a0, some (.int x), a2, a3, a4, a5, a6] st σ Q = ax k_A_picture 20 [a0, some (.int x), a2, a3, a4, a5, a6] (.int x :: st) σ Q := ru_loc (q := (_, _)) f_A_picture_19 rfl rfl rfl
theorem f_A_picture_20 : am_cd k_A_picture 20 = some ((some .int), .invokestatic 104, (100, 1, 401, 0, 10, .null)) := rfl
theorem s_A_picture_20 {ls : am_L} {st : List Value} {σ : am_H} {Q : Option Value → am_H → Prop} {p0 : Int32} (h8 : am_s8 st) : ax k_A_picture 20 ls (.int p0 :: st) σ Q = ax k_A_isPerson 0 [some (.int p0)] [] σ (ax_k k_A_picture 23 ls st Q) := ru_sta (M' := rk_A_isPerson) f_A_picture_20 rfl (by decide) rfl (by simp) rfl h8 rfl rfl rfl rfl rfl
theorem f_A_picture_23 : am_cd k_A_picture 23 = some ((some .int), .ifCond .eq 15, (38, 0, 0, 0, 0, .null)) := rfl
theorem s_A_picture_23 {ls : am_L} {st : List Value} {σ : am_H} {Q : Option Value → am_H → Prop} {x : Int32} : ax k_A_picture 23 ls (.int x :: st) σ Q = (if x = 0 then ax k_A_picture 38 ls st σ Q else ax k_A_picture 26 ls st σ Q) := (ru_if f_A_picture_23 rfl).trans (ru_i_eq _ _ _ _)
theorem f_A_picture_26 : am_cd k_A_picture 26 = some ((some .int), .iload_n 2, (0, 0, 0, 0, 0, .null)) := rfl
theorem s_A_picture_26 {a0 a1 a3 a4 a5 a6 : Option Value} {st : List Value} {σ : am_H} {Q : Option Value → am_H → Prop} {x : Int32} : ax k_A_picture 26 [a0, a1, some (.int x), a3, a4, a5, a6] st σ Q = ax k_A_picture 27 [a0, a1, some (.int x), a3, a4, a5, a6] (.int x :: st) σ Q := ru_loc (q := (_, _)) f_A_picture_26 rfl rfl rfl
theorem f_A_picture_27 : am_cd k_A_picture 27 = some ((some .int), .invokestatic 85, (99, 1, 321, 0, 10, .null)) := rfl
theorem s_A_picture_27 {ls : am_L} {st : List Value} {σ : am_H} {Q : Option Value → am_H → Prop} {p0 : Int32} (h8 : am_s8 st) : ax k_A_picture 27 ls (.int p0 :: st) σ Q = ax k_A_isMinute 0 [some (.int p0)] [] σ (ax_k k_A_picture 30 ls st Q) := ru_sta (M' := rk_A_isMinute) f_A_picture_27 rfl (by decide) rfl (by simp) rfl h8 rfl rfl rfl rfl rfl
theorem f_A_picture_30 : am_cd k_A_picture 30 = some ((some .int), .ifCond .eq 8, (38, 0, 0, 0, 0, .null)) := rfl
theorem s_A_picture_30 {ls : am_L} {st : List Value} {σ : am_H} {Q : Option Value → am_H → Prop} {x : Int32} : ax k_A_picture 30 ls (.int x :: st) σ Q = (if x = 0 then ax k_A_picture 38 ls st σ Q else ax k_A_picture 33 ls st σ Q) := (ru_if f_A_picture_30 rfl).trans (ru_i_eq _ _ _ _)
theorem f_A_picture_33 : am_cd k_A_picture 33 = some ((some .int), .iload 6, (0, 0, 0, 0, 0, .null)) := rfl
theorem s_A_picture_33 {a0 a1 a2 a3 a4 a5 : Option Value} {st : List Value} {σ : am_H} {Q : Option Value → am_H → Prop} {x : Int32} : ax k_A_picture 33 [a0, a1, a2, a3, a4, a5, some (.int x)] st σ Q = ax k_A_picture 35 [a0, a1, a2, a3, a4, a5, some (.int x)] (.int x :: st) σ Q := ru_loc (q := (_, _)) f_A_picture_33 rfl rfl rfl
theorem f_A_picture_35 : am_cd k_A_picture 35 = some ((some .int), .ifCond .ne 5, (40, 0, 0, 0, 0, .null)) := rfl
theorem s_A_picture_35 {ls : am_L} {st : List Value} {σ : am_H} {Q : Option Value → am_H → Prop} {x : Int32} : ax k_A_picture 35 ls (.int x :: st) σ Q = (if x = 0 then ax k_A_picture 38 ls st σ Q else ax k_A_picture 40 ls st σ Q) := (ru_if f_A_picture_35 rfl).trans (ru_i_ne _ _ _ _)
theorem f_A_picture_38 : am_cd k_A_picture 38 = some ((some .int), .iconst (-1), (0, 0, 0, 0, 0, .null)) := rfl
theorem s_A_picture_38 {ls : am_L} {st : List Value} {σ : am_H} {Q : Option Value → am_H → Prop} : ax k_A_picture 38 ls st σ Q = ax k_A_picture 39 ls (.int (-1) :: st) σ Q := ru_iconst f_A_picture_38 (by decide +kernel) rfl
theorem f_A_picture_39 : am_cd k_A_picture 39 = some ((some .int), .ireturn, (0, 0, 0, 0, 0, .null)) := rfl
theorem s_A_picture_39 {ls : am_L} {σ : am_H} {Q : Option Value → am_H → Prop} {v : Int32} : ax k_A_picture 39 ls [.int v] σ Q = Q (some (.int v)) σ := ru_iretI f_A_picture_39
theorem f_A_picture_40 : am_cd k_A_picture 40 = some ((some .int), .aload_n 0, (0, 0, 0, 0, 0, .null)) := rfl
theorem s_A_picture_40 {a1 a2 a3 a4 a5 a6 : Option Value} {st : List Value} {σ : am_H} {Q : Option Value → am_H → Prop} {x : Nat} : ax k_A_picture 40 [some (.ref x), a1, a2, a3, a4, a5, a6] st σ Q = ax k_A_picture 41 [some (.ref x), a1, a2, a3, a4, a5, a6] (.ref x :: st) σ Q := ru_loc (q := (_, _)) f_A_picture_40 rfl rfl rfl
theorem f_A_picture_41 : am_cd k_A_picture 41 = some ((some .int), .getfield 19, (10, 1, 281, 0, 3, .null)) := rfl
theorem s_A_picture_41 {ls : am_L} {st : List Value} {σ : am_H} {Q : Option Value → am_H → Prop} {a : Nat} : ax k_A_picture 41 ls (.ref a :: st) σ Q = ax_f (am_fld σ a 10 1) (fun v => ax k_A_picture 44 ls (v :: st) σ Q) := ru_getf f_A_picture_41 rfl
theorem f_A_picture_44 : am_cd k_A_picture 44 = some ((some .int), .iload_n 1, (0, 0, 0, 0, 0, .null)) := rfl
theorem s_A_picture_44 {a0 a2 a3 a4 a5 a6 : Option Value} {st : List Value} {σ : am_H} {Q : Option Value → am_H → Prop} {x : Int32} : ax k_A_picture 44 [a0, some (.int x), a2, a3, a4, a5, a6] st σ Q = ax k_A_picture 45 [a0, some (.int x), a2, a3, a4, a5, a6] (.int x :: st) σ Q := ru_loc (q := (_, _)) f_A_picture_44 rfl rfl rfl
theorem f_A_picture_45 : am_cd k_A_picture 45 = some ((some .int), .iload_n 2, (0, 0, 0, 0, 0, .null)) := rfl
theorem s_A_picture_45 {a0 a1 a3 a4 a5 a6 : Option Value} {st : List Value} {σ : am_H} {Q : Option Value → am_H → Prop} {x : Int32} : ax k_A_picture 45 [a0, a1, some (.int x), a3, a4, a5, a6] st σ Q = ax k_A_picture 46 [a0, a1, some (.int x), a3, a4, a5, a6] (.int x :: st) σ Q := ru_loc (q := (_, _)) f_A_picture_45 rfl rfl rfl
theorem f_A_picture_46 : am_cd k_A_picture 46 = some ((some .int), .lload_n 3, (0, 0, 0, 0, 0, .null)) := rfl
theorem s_A_picture_46 {a0 a1 a2 a4 a5 a6 : Option Value} {st : List Value} {σ : am_H} {Q : Option Value → am_H → Prop} {x : Int64} : ax k_A_picture 46 [a0, a1, a2, some (.long x), a4, a5, a6] st σ Q = ax k_A_picture 47 [a0, a1, a2, some (.long x), a4, a5, a6] (.long x :: st) σ Q := ru_loc (q := (_, _)) f_A_picture_46 rfl rfl rfl
theorem f_A_picture_47 : am_cd k_A_picture 47 = some ((some .int), .iload 5, (0, 0, 0, 0, 0, .null)) := rfl
theorem s_A_picture_47 {a0 a1 a2 a3 a4 a6 : Option Value} {st : List Value} {σ : am_H} {Q : Option Value → am_H → Prop} {x : Int32} : ax k_A_picture 47 [a0, a1, a2, a3, a4, some (.int x), a6] st σ Q = ax k_A_picture 49 [a0, a1, a2, a3, a4, some (.int x), a6] (.int x :: st) σ Q := ru_loc (q := (_, _)) f_A_picture_47 rfl rfl rfl
theorem f_A_picture_49 : am_cd k_A_picture 49 = some ((some .int), .invokevirtual 107, (2, 4, 404, 0, 0, .null)) := rfl
theorem s_A_picture_49 {ls : am_L} {st : List Value} {σ : am_H} {Q : Option Value → am_H → Prop} {p0 : Int32} {p1 : Int32} {p2 : Int64} {p3 : Int32} {b : Nat} (hi : am_is σ b 0) (h8 : am_s8 st) : ax k_A_picture 49 ls (.int p3 :: .long p2 :: .int p1 :: .int p0 :: .ref b :: st) σ Q = ax k_Album_add 0 [some (.ref b), some (.int p0), some (.int p1), some (.long p2), none, some (.int p3), none, none] [] σ (ax_k k_A_picture 52 ls st Q) := ru_vir (M' := rk_Album_add) f_A_picture_49 rfl rfl rfl rfl hi h8 rfl rfl rfl rfl rfl
theorem f_A_picture_52 : am_cd k_A_picture 52 = some ((some .int), .ireturn, (0, 0, 0, 0, 0, .null)) := rfl
theorem s_A_picture_52 {ls : am_L} {σ : am_H} {Q : Option Value → am_H → Prop} {v : Int32} : ax k_A_picture 52 ls [.int v] σ Q = Q (some (.int v)) σ := ru_iretI f_A_picture_52
theorem f_A_caption_0 : am_cd k_A_caption 0 = some ((some .boolean), .aload_n 0, (0, 0, 0, 0, 0, .null)) := rfl
theorem s_A_caption_0 {a1 a2 a3 : Option Value} {st : List Value} {σ : am_H} {Q : Option Value → am_H → Prop} {x : Nat} : ax k_A_caption 0 [some (.ref x), a1, a2, a3] st σ Q = ax k_A_caption 1 [some (.ref x), a1, a2, a3] (.ref x :: st) σ Q := ru_loc (q := (_, _)) f_A_caption_0 rfl rfl rfl
theorem f_A_caption_1 : am_cd k_A_caption 1 = some ((some .boolean), .getfield 19, (10, 1, 281, 0, 3, .null)) := rfl
theorem s_A_caption_1 {ls : am_L} {st : List Value} {σ : am_H} {Q : Option Value → am_H → Prop} {a : Nat} : ax k_A_caption 1 ls (.ref a :: st) σ Q = ax_f (am_fld σ a 10 1) (fun v => ax k_A_caption 4 ls (v :: st) σ Q) := ru_getf f_A_caption_1 rfl
theorem f_A_caption_4 : am_cd k_A_caption 4 = some ((some .boolean), .iload_n 1, (0, 0, 0, 0, 0, .null)) := rfl
theorem s_A_caption_4 {a0 a2 a3 : Option Value} {st : List Value} {σ : am_H} {Q : Option Value → am_H → Prop} {x : Int32} : ax k_A_caption 4 [a0, some (.int x), a2, a3] st σ Q = ax k_A_caption 5 [a0, some (.int x), a2, a3] (.int x :: st) σ Q := ru_loc (q := (_, _)) f_A_caption_4 rfl rfl rfl
theorem f_A_caption_5 : am_cd k_A_caption 5 = some ((some .boolean), .invokevirtual 110, (1, 1, 419, 0, 0, .null)) := rfl
theorem s_A_caption_5 {ls : am_L} {st : List Value} {σ : am_H} {Q : Option Value → am_H → Prop} {p0 : Int32} {b : Nat} (hi : am_is σ b 0) (h8 : am_s8 st) : ax k_A_caption 5 ls (.int p0 :: .ref b :: st) σ Q = ax k_Album_isPicture 0 [some (.ref b), some (.int p0)] [] σ (ax_k k_A_caption 8 ls st Q) := ru_vir (M' := rk_Album_isPicture) f_A_caption_5 rfl rfl rfl rfl hi h8 rfl rfl rfl rfl rfl
theorem f_A_caption_8 : am_cd k_A_caption 8 = some ((some .boolean), .ifCond .eq 14, (22, 0, 0, 0, 0, .null)) := rfl
theorem s_A_caption_8 {ls : am_L} {st : List Value} {σ : am_H} {Q : Option Value → am_H → Prop} {x : Int32} : ax k_A_caption 8 ls (.int x :: st) σ Q = (if x = 0 then ax k_A_caption 22 ls st σ Q else ax k_A_caption 11 ls st σ Q) := (ru_if f_A_caption_8 rfl).trans (ru_i_eq _ _ _ _)
theorem f_A_caption_11 : am_cd k_A_caption 11 = some ((some .boolean), .aload_n 0, (0, 0, 0, 0, 0, .null)) := rfl
theorem s_A_caption_11 {a1 a2 a3 : Option Value} {st : List Value} {σ : am_H} {Q : Option Value → am_H → Prop} {x : Nat} : ax k_A_caption 11 [some (.ref x), a1, a2, a3] st σ Q = ax k_A_caption 12 [some (.ref x), a1, a2, a3] (.ref x :: st) σ Q := ru_loc (q := (_, _)) f_A_caption_11 rfl rfl rfl
theorem f_A_caption_12 : am_cd k_A_caption 12 = some ((some .boolean), .getfield 10, (10, 0, 280, 0, 3, .null)) := rfl
theorem s_A_caption_12 {ls : am_L} {st : List Value} {σ : am_H} {Q : Option Value → am_H → Prop} {a : Nat} : ax k_A_caption 12 ls (.ref a :: st) σ Q = ax_f (am_fld σ a 10 0) (fun v => ax k_A_caption 15 ls (v :: st) σ Q) := ru_getf f_A_caption_12 rfl
theorem f_A_caption_15 : am_cd k_A_caption 15 = some ((some .boolean), .iload_n 2, (0, 0, 0, 0, 0, .null)) := rfl
theorem s_A_caption_15 {a0 a1 a3 : Option Value} {st : List Value} {σ : am_H} {Q : Option Value → am_H → Prop} {x : Int32} : ax k_A_caption 15 [a0, a1, some (.int x), a3] st σ Q = ax k_A_caption 16 [a0, a1, some (.int x), a3] (.int x :: st) σ Q := ru_loc (q := (_, _)) f_A_caption_15 rfl rfl rfl
theorem f_A_caption_16 : am_cd k_A_caption 16 = some ((some .boolean), .invokevirtual 113, (60, 1, 423, 0, 9, .null)) := rfl
theorem s_A_caption_16 {ls : am_L} {st : List Value} {σ : am_H} {Q : Option Value → am_H → Prop} {p0 : Int32} {b : Nat} (hi : am_is σ b 9) (h8 : am_s8 st) : ax k_A_caption 16 ls (.int p0 :: .ref b :: st) σ Q = ax k_WordTree_isWord 0 [some (.ref b), some (.int p0)] [] σ (ax_k k_A_caption 19 ls st Q) := ru_vir (M' := rk_WordTree_isWord) f_A_caption_16 rfl rfl rfl rfl hi h8 rfl rfl rfl rfl rfl
theorem f_A_caption_19 : am_cd k_A_caption 19 = some ((some .boolean), .ifCond .ne 5, (24, 0, 0, 0, 0, .null)) := rfl
theorem s_A_caption_19 {ls : am_L} {st : List Value} {σ : am_H} {Q : Option Value → am_H → Prop} {x : Int32} : ax k_A_caption 19 ls (.int x :: st) σ Q = (if x = 0 then ax k_A_caption 22 ls st σ Q else ax k_A_caption 24 ls st σ Q) := (ru_if f_A_caption_19 rfl).trans (ru_i_ne _ _ _ _)
theorem f_A_caption_22 : am_cd k_A_caption 22 = some ((some .boolean), .iconst 0, (0, 0, 0, 0, 0, .null)) := rfl
theorem s_A_caption_22 {ls : am_L} {st : List Value} {σ : am_H} {Q : Option Value → am_H → Prop} : ax k_A_caption 22 ls st σ Q = ax k_A_caption 23 ls (.int 0 :: st) σ Q := ru_iconst f_A_caption_22 (by decide +kernel) rfl
theorem f_A_caption_23 : am_cd k_A_caption 23 = some ((some .boolean), .ireturn, (0, 0, 0, 0, 0, .null)) := rfl
theorem s_A_caption_23 {ls : am_L} {σ : am_H} {Q : Option Value → am_H → Prop} {v : Int32} : ax k_A_caption 23 ls ([.int v]) σ Q = (am_nar .boolean v = true ∧ Q (some (.int v)) σ) := ru_iret f_A_caption_23
theorem f_A_caption_24 : am_cd k_A_caption 24 = some ((some .boolean), .aload_n 0, (0, 0, 0, 0, 0, .null)) := rfl
theorem s_A_caption_24 {a1 a2 a3 : Option Value} {st : List Value} {σ : am_H} {Q : Option Value → am_H → Prop} {x : Nat} : ax k_A_caption 24 [some (.ref x), a1, a2, a3] st σ Q = ax k_A_caption 25 [some (.ref x), a1, a2, a3] (.ref x :: st) σ Q := ru_loc (q := (_, _)) f_A_caption_24 rfl rfl rfl
theorem f_A_caption_25 : am_cd k_A_caption 25 = some ((some .boolean), .getfield 26, (10, 2, 282, 0, 3, .null)) := rfl
theorem s_A_caption_25 {ls : am_L} {st : List Value} {σ : am_H} {Q : Option Value → am_H → Prop} {a : Nat} : ax k_A_caption 25 ls (.ref a :: st) σ Q = ax_f (am_fld σ a 10 2) (fun v => ax k_A_caption 28 ls (v :: st) σ Q) := ru_getf f_A_caption_25 rfl
theorem f_A_caption_28 : am_cd k_A_caption 28 = some ((some .boolean), .iload_n 1, (0, 0, 0, 0, 0, .null)) := rfl
theorem s_A_caption_28 {a0 a2 a3 : Option Value} {st : List Value} {σ : am_H} {Q : Option Value → am_H → Prop} {x : Int32} : ax k_A_caption 28 [a0, some (.int x), a2, a3] st σ Q = ax k_A_caption 29 [a0, some (.int x), a2, a3] (.int x :: st) σ Q := ru_loc (q := (_, _)) f_A_caption_28 rfl rfl rfl
theorem f_A_caption_29 : am_cd k_A_caption 29 = some ((some .boolean), .iload_n 2, (0, 0, 0, 0, 0, .null)) := rfl
theorem s_A_caption_29 {a0 a1 a3 : Option Value} {st : List Value} {σ : am_H} {Q : Option Value → am_H → Prop} {x : Int32} : ax k_A_caption 29 [a0, a1, some (.int x), a3] st σ Q = ax k_A_caption 30 [a0, a1, some (.int x), a3] (.int x :: st) σ Q := ru_loc (q := (_, _)) f_A_caption_29 rfl rfl rfl
theorem f_A_caption_30 : am_cd k_A_caption 30 = some ((some .boolean), .iload_n 3, (0, 0, 0, 0, 0, .null)) := rfl
theorem s_A_caption_30 {a0 a1 a2 : Option Value} {st : List Value} {σ : am_H} {Q : Option Value → am_H → Prop} {x : Int32} : ax k_A_caption 30 [a0, a1, a2, some (.int x)] st σ Q = ax k_A_caption 31 [a0, a1, a2, some (.int x)] (.int x :: st) σ Q := ru_loc (q := (_, _)) f_A_caption_30 rfl rfl rfl
theorem f_A_caption_31 : am_cd k_A_caption 31 = some ((some .boolean), .aload_n 0, (0, 0, 0, 0, 0, .null)) := rfl
theorem s_A_caption_31 {a1 a2 a3 : Option Value} {st : List Value} {σ : am_H} {Q : Option Value → am_H → Prop} {x : Nat} : ax k_A_caption 31 [some (.ref x), a1, a2, a3] st σ Q = ax k_A_caption 32 [some (.ref x), a1, a2, a3] (.ref x :: st) σ Q := ru_loc (q := (_, _)) f_A_caption_31 rfl rfl rfl
theorem f_A_caption_32 : am_cd k_A_caption 32 = some ((some .boolean), .getfield 82, (10, 11, 291, 0, 0, .null)) := rfl
theorem s_A_caption_32 {ls : am_L} {st : List Value} {σ : am_H} {Q : Option Value → am_H → Prop} {a : Nat} : ax k_A_caption 32 ls (.ref a :: st) σ Q = ax_f (am_fld σ a 10 11) (fun v => ax k_A_caption 35 ls (v :: st) σ Q) := ru_getf f_A_caption_32 rfl
theorem f_A_caption_35 : am_cd k_A_caption 35 = some ((some .boolean), .invokevirtual 116, (10, 4, 424, 0, 1, .null)) := rfl
theorem s_A_caption_35 {ls : am_L} {st : List Value} {σ : am_H} {Q : Option Value → am_H → Prop} {p0 : Int32} {p1 : Int32} {p2 : Int32} {p3 : Int32} {b : Nat} (hi : am_is σ b 1) (h8 : am_s8 st) : ax k_A_caption 35 ls (.int p3 :: .int p2 :: .int p1 :: .int p0 :: .ref b :: st) σ Q = ax k_Captions_change 0 [some (.ref b), some (.int p0), some (.int p1), some (.int p2), some (.int p3), none, none] [] σ (ax_k k_A_caption 38 ls st Q) := ru_vir (M' := rk_Captions_change) f_A_caption_35 rfl rfl rfl rfl hi h8 rfl rfl rfl rfl rfl
theorem f_A_caption_38 : am_cd k_A_caption 38 = some ((some .boolean), .ireturn, (0, 0, 0, 0, 0, .null)) := rfl
theorem s_A_caption_38 {ls : am_L} {σ : am_H} {Q : Option Value → am_H → Prop} {v : Int32} : ax k_A_caption 38 ls ([.int v]) σ Q = (am_nar .boolean v = true ∧ Q (some (.int v)) σ) := ru_iret f_A_caption_38
theorem f_A_has_0 : am_cd k_A_has 0 = some ((some .int), .aload_n 0, (0, 0, 0, 0, 0, .null)) := rfl
theorem s_A_has_0 {a1 a2 a3 a4 : Option Value} {st : List Value} {σ : am_H} {Q : Option Value → am_H → Prop} {x : Nat} : ax k_A_has 0 [some (.ref x), a1, a2, a3, a4] st σ Q = ax k_A_has 1 [some (.ref x), a1, a2, a3, a4] (.ref x :: st) σ Q := ru_loc (q := (_, _)) f_A_has_0 rfl rfl rfl
theorem f_A_has_1 : am_cd k_A_has 1 = some ((some .int), .getfield 19, (10, 1, 281, 0, 3, .null)) := rfl
theorem s_A_has_1 {ls : am_L} {st : List Value} {σ : am_H} {Q : Option Value → am_H → Prop} {a : Nat} : ax k_A_has 1 ls (.ref a :: st) σ Q = ax_f (am_fld σ a 10 1) (fun v => ax k_A_has 4 ls (v :: st) σ Q) := ru_getf f_A_has_1 rfl
theorem f_A_has_4 : am_cd k_A_has 4 = some ((some .int), .iload_n 1, (0, 0, 0, 0, 0, .null)) := rfl
theorem s_A_has_4 {a0 a2 a3 a4 : Option Value} {st : List Value} {σ : am_H} {Q : Option Value → am_H → Prop} {x : Int32} : ax k_A_has 4 [a0, some (.int x), a2, a3, a4] st σ Q = ax k_A_has 5 [a0, some (.int x), a2, a3, a4] (.int x :: st) σ Q := ru_loc (q := (_, _)) f_A_has_4 rfl rfl rfl
theorem f_A_has_5 : am_cd k_A_has 5 = some ((some .int), .invokevirtual 110, (1, 1, 419, 0, 0, .null)) := rfl
theorem s_A_has_5 {ls : am_L} {st : List Value} {σ : am_H} {Q : Option Value → am_H → Prop} {p0 : Int32} {b : Nat} (hi : am_is σ b 0) (h8 : am_s8 st) : ax k_A_has 5 ls (.int p0 :: .ref b :: st) σ Q = ax k_Album_isPicture 0 [some (.ref b), some (.int p0)] [] σ (ax_k k_A_has 8 ls st Q) := ru_vir (M' := rk_Album_isPicture) f_A_has_5 rfl rfl rfl rfl hi h8 rfl rfl rfl rfl rfl
theorem f_A_has_8 : am_cd k_A_has 8 = some ((some .int), .ifCond .eq 22, (30, 0, 0, 0, 0, .null)) := rfl
theorem s_A_has_8 {ls : am_L} {st : List Value} {σ : am_H} {Q : Option Value → am_H → Prop} {x : Int32} : ax k_A_has 8 ls (.int x :: st) σ Q = (if x = 0 then ax k_A_has 30 ls st σ Q else ax k_A_has 11 ls st σ Q) := (ru_if f_A_has_8 rfl).trans (ru_i_eq _ _ _ _)
theorem f_A_has_11 : am_cd k_A_has 11 = some ((some .int), .aload_n 0, (0, 0, 0, 0, 0, .null)) := rfl
theorem s_A_has_11 {a1 a2 a3 a4 : Option Value} {st : List Value} {σ : am_H} {Q : Option Value → am_H → Prop} {x : Nat} : ax k_A_has 11 [some (.ref x), a1, a2, a3, a4] st σ Q = ax k_A_has 12 [some (.ref x), a1, a2, a3, a4] (.ref x :: st) σ Q := ru_loc (q := (_, _)) f_A_has_11 rfl rfl rfl
theorem f_A_has_12 : am_cd k_A_has 12 = some ((some .int), .getfield 10, (10, 0, 280, 0, 3, .null)) := rfl
theorem s_A_has_12 {ls : am_L} {st : List Value} {σ : am_H} {Q : Option Value → am_H → Prop} {a : Nat} : ax k_A_has 12 ls (.ref a :: st) σ Q = ax_f (am_fld σ a 10 0) (fun v => ax k_A_has 15 ls (v :: st) σ Q) := ru_getf f_A_has_12 rfl
theorem f_A_has_15 : am_cd k_A_has 15 = some ((some .int), .iload_n 2, (0, 0, 0, 0, 0, .null)) := rfl
theorem s_A_has_15 {a0 a1 a3 a4 : Option Value} {st : List Value} {σ : am_H} {Q : Option Value → am_H → Prop} {x : Int32} : ax k_A_has 15 [a0, a1, some (.int x), a3, a4] st σ Q = ax k_A_has 16 [a0, a1, some (.int x), a3, a4] (.int x :: st) σ Q := ru_loc (q := (_, _)) f_A_has_15 rfl rfl rfl
theorem f_A_has_16 : am_cd k_A_has 16 = some ((some .int), .invokevirtual 113, (60, 1, 423, 0, 9, .null)) := rfl
theorem s_A_has_16 {ls : am_L} {st : List Value} {σ : am_H} {Q : Option Value → am_H → Prop} {p0 : Int32} {b : Nat} (hi : am_is σ b 9) (h8 : am_s8 st) : ax k_A_has 16 ls (.int p0 :: .ref b :: st) σ Q = ax k_WordTree_isWord 0 [some (.ref b), some (.int p0)] [] σ (ax_k k_A_has 19 ls st Q) := ru_vir (M' := rk_WordTree_isWord) f_A_has_16 rfl rfl rfl rfl hi h8 rfl rfl rfl rfl rfl
theorem f_A_has_19 : am_cd k_A_has 19 = some ((some .int), .ifCond .eq 11, (30, 0, 0, 0, 0, .null)) := rfl
theorem s_A_has_19 {ls : am_L} {st : List Value} {σ : am_H} {Q : Option Value → am_H → Prop} {x : Int32} : ax k_A_has 19 ls (.int x :: st) σ Q = (if x = 0 then ax k_A_has 30 ls st σ Q else ax k_A_has 22 ls st σ Q) := (ru_if f_A_has_19 rfl).trans (ru_i_eq _ _ _ _)
theorem f_A_has_22 : am_cd k_A_has 22 = some ((some .int), .aload_n 0, (0, 0, 0, 0, 0, .null)) := rfl
theorem s_A_has_22 {a1 a2 a3 a4 : Option Value} {st : List Value} {σ : am_H} {Q : Option Value → am_H → Prop} {x : Nat} : ax k_A_has 22 [some (.ref x), a1, a2, a3, a4] st σ Q = ax k_A_has 23 [some (.ref x), a1, a2, a3, a4] (.ref x :: st) σ Q := ru_loc (q := (_, _)) f_A_has_22 rfl rfl rfl
theorem f_A_has_23 : am_cd k_A_has 23 = some ((some .int), .iload_n 3, (0, 0, 0, 0, 0, .null)) := rfl
theorem s_A_has_23 {a0 a1 a2 a4 : Option Value} {st : List Value} {σ : am_H} {Q : Option Value → am_H → Prop} {x : Int32} : ax k_A_has 23 [a0, a1, a2, some (.int x), a4] st σ Q = ax k_A_has 24 [a0, a1, a2, some (.int x), a4] (.int x :: st) σ Q := ru_loc (q := (_, _)) f_A_has_23 rfl rfl rfl
theorem f_A_has_24 : am_cd k_A_has 24 = some ((some .int), .invokevirtual 97, (105, 1, 384, 0, 10, .null)) := rfl
theorem s_A_has_24 {ls : am_L} {st : List Value} {σ : am_H} {Q : Option Value → am_H → Prop} {p0 : Int32} {b : Nat} (hi : am_is σ b 10) (h8 : am_s8 st) : ax k_A_has 24 ls (.int p0 :: .ref b :: st) σ Q = ax k_A_isPast 0 [some (.ref b), some (.int p0)] [] σ (ax_k k_A_has 27 ls st Q) := ru_vir (M' := rk_A_isPast) f_A_has_24 rfl rfl rfl rfl hi h8 rfl rfl rfl rfl rfl
theorem f_A_has_27 : am_cd k_A_has 27 = some ((some .int), .ifCond .ne 5, (32, 0, 0, 0, 0, .null)) := rfl
theorem s_A_has_27 {ls : am_L} {st : List Value} {σ : am_H} {Q : Option Value → am_H → Prop} {x : Int32} : ax k_A_has 27 ls (.int x :: st) σ Q = (if x = 0 then ax k_A_has 30 ls st σ Q else ax k_A_has 32 ls st σ Q) := (ru_if f_A_has_27 rfl).trans (ru_i_ne _ _ _ _)
theorem f_A_has_30 : am_cd k_A_has 30 = some ((some .int), .iconst (-1), (0, 0, 0, 0, 0, .null)) := rfl
theorem s_A_has_30 {ls : am_L} {st : List Value} {σ : am_H} {Q : Option Value → am_H → Prop} : ax k_A_has 30 ls st σ Q = ax k_A_has 31 ls (.int (-1) :: st) σ Q := ru_iconst f_A_has_30 (by decide +kernel) rfl
theorem f_A_has_31 : am_cd k_A_has 31 = some ((some .int), .ireturn, (0, 0, 0, 0, 0, .null)) := rfl
theorem s_A_has_31 {ls : am_L} {σ : am_H} {Q : Option Value → am_H → Prop} {v : Int32} : ax k_A_has 31 ls [.int v] σ Q = Q (some (.int v)) σ := ru_iretI f_A_has_31
theorem f_A_has_32 : am_cd k_A_has 32 = some ((some .int), .aload_n 0, (0, 0, 0, 0, 0, .null)) := rfl
theorem s_A_has_32 {a1 a2 a3 a4 : Option Value} {st : List Value} {σ : am_H} {Q : Option Value → am_H → Prop} {x : Nat} : ax k_A_has 32 [some (.ref x), a1, a2, a3, a4] st σ Q = ax k_A_has 33 [some (.ref x), a1, a2, a3, a4] (.ref x :: st) σ Q := ru_loc (q := (_, _)) f_A_has_32 rfl rfl rfl
theorem f_A_has_33 : am_cd k_A_has 33 = some ((some .int), .iload_n 2, (0, 0, 0, 0, 0, .null)) := rfl
theorem s_A_has_33 {a0 a1 a3 a4 : Option Value} {st : List Value} {σ : am_H} {Q : Option Value → am_H → Prop} {x : Int32} : ax k_A_has 33 [a0, a1, some (.int x), a3, a4] st σ Q = ax k_A_has 34 [a0, a1, some (.int x), a3, a4] (.int x :: st) σ Q := ru_loc (q := (_, _)) f_A_has_33 rfl rfl rfl
theorem f_A_has_34 : am_cd k_A_has 34 = some ((some .int), .iload_n 3, (0, 0, 0, 0, 0, .null)) := rfl
theorem s_A_has_34 {a0 a1 a2 a4 : Option Value} {st : List Value} {σ : am_H} {Q : Option Value → am_H → Prop} {x : Int32} : ax k_A_has 34 [a0, a1, a2, some (.int x), a4] st σ Q = ax k_A_has 35 [a0, a1, a2, some (.int x), a4] (.int x :: st) σ Q := ru_loc (q := (_, _)) f_A_has_34 rfl rfl rfl
theorem f_A_has_35 : am_cd k_A_has 35 = some ((some .int), .iload 4, (0, 0, 0, 0, 0, .null)) := rfl
theorem s_A_has_35 {a0 a1 a2 a3 : Option Value} {st : List Value} {σ : am_H} {Q : Option Value → am_H → Prop} {x : Int32} : ax k_A_has 35 [a0, a1, a2, a3, some (.int x)] st σ Q = ax k_A_has 37 [a0, a1, a2, a3, some (.int x)] (.int x :: st) σ Q := ru_loc (q := (_, _)) f_A_has_35 rfl rfl rfl
theorem f_A_has_37 : am_cd k_A_has 37 = some ((some .int), .invokevirtual 120, (107, 3, 434, 0, 10, .null)) := rfl
theorem s_A_has_37 {ls : am_L} {st : List Value} {σ : am_H} {Q : Option Value → am_H → Prop} {p0 : Int32} {p1 : Int32} {p2 : Int32} {b : Nat} (hi : am_is σ b 10) (h8 : am_s8 st) : ax k_A_has 37 ls (.int p2 :: .int p1 :: .int p0 :: .ref b :: st) σ Q = ax k_A_picturesWith 0 [some (.ref b), some (.int p0), some (.int p1), some (.int p2)] [] σ (ax_k k_A_has 40 ls st Q) := ru_vir (M' := rk_A_picturesWith) f_A_has_37 rfl rfl rfl rfl hi h8 rfl rfl rfl rfl rfl
theorem f_A_has_40 : am_cd k_A_has 40 = some ((some .int), .iload_n 1, (0, 0, 0, 0, 0, .null)) := rfl
theorem s_A_has_40 {a0 a2 a3 a4 : Option Value} {st : List Value} {σ : am_H} {Q : Option Value → am_H → Prop} {x : Int32} : ax k_A_has 40 [a0, some (.int x), a2, a3, a4] st σ Q = ax k_A_has 41 [a0, some (.int x), a2, a3, a4] (.int x :: st) σ Q := ru_loc (q := (_, _)) f_A_has_40 rfl rfl rfl
theorem f_A_has_41 : am_cd k_A_has 41 = some ((some .int), .invokestatic 124, (104, 2, 457, 0, 10, .null)) := rfl
theorem s_A_has_41 {ls : am_L} {st : List Value} {σ : am_H} {Q : Option Value → am_H → Prop} {p0 : Int64} {p1 : Int32} (h8 : am_s8 st) : ax k_A_has 41 ls (.int p1 :: .long p0 :: st) σ Q = ax k_A_holds 0 [some (.long p0), none, some (.int p1)] [] σ (ax_k k_A_has 44 ls st Q) := ru_sta (M' := rk_A_holds) f_A_has_41 rfl (by decide) rfl (by simp) rfl h8 rfl rfl rfl rfl rfl
theorem f_A_has_44 : am_cd k_A_has 44 = some ((some .int), .ifCond .eq 7, (51, 0, 0, 0, 0, .null)) := rfl
theorem s_A_has_44 {ls : am_L} {st : List Value} {σ : am_H} {Q : Option Value → am_H → Prop} {x : Int32} : ax k_A_has 44 ls (.int x :: st) σ Q = (if x = 0 then ax k_A_has 51 ls st σ Q else ax k_A_has 47 ls st σ Q) := (ru_if f_A_has_44 rfl).trans (ru_i_eq _ _ _ _)
theorem f_A_has_47 : am_cd k_A_has 47 = some ((some .int), .iconst 1, (0, 0, 0, 0, 0, .null)) := rfl
theorem s_A_has_47 {ls : am_L} {st : List Value} {σ : am_H} {Q : Option Value → am_H → Prop} : ax k_A_has 47 ls st σ Q = ax k_A_has 48 ls (.int 1 :: st) σ Q := ru_iconst f_A_has_47 (by decide +kernel) rfl
theorem f_A_has_48 : am_cd k_A_has 48 = some ((some .int), .goto 4, (52, 0, 0, 0, 0, .null)) := rfl
theorem s_A_has_48 {ls : am_L} {st : List Value} {σ : am_H} {Q : Option Value → am_H → Prop} : ax k_A_has 48 ls st σ Q = ax k_A_has 52 ls st σ Q := ru_goto f_A_has_48
theorem f_A_has_51 : am_cd k_A_has 51 = some ((some .int), .iconst 0, (0, 0, 0, 0, 0, .null)) := rfl
theorem s_A_has_51 {ls : am_L} {st : List Value} {σ : am_H} {Q : Option Value → am_H → Prop} : ax k_A_has 51 ls st σ Q = ax k_A_has 52 ls (.int 0 :: st) σ Q := ru_iconst f_A_has_51 (by decide +kernel) rfl
theorem f_A_has_52 : am_cd k_A_has 52 = some ((some .int), .ireturn, (0, 0, 0, 0, 0, .null)) := rfl
theorem s_A_has_52 {ls : am_L} {σ : am_H} {Q : Option Value → am_H → Prop} {v : Int32} : ax k_A_has 52 ls [.int v] σ Q = Q (some (.int v)) σ := ru_iretI f_A_has_52
theorem f_A_search_0 : am_cd k_A_search 0 = some ((some .int), .aload_n 0, (0, 0, 0, 0, 0, .null)) := rfl
theorem s_A_search_0 {a1 a2 a3 : Option Value} {st : List Value} {σ : am_H} {Q : Option Value → am_H → Prop} {x : Nat} : ax k_A_search 0 [some (.ref x), a1, a2, a3] st σ Q = ax k_A_search 1 [some (.ref x), a1, a2, a3] (.ref x :: st) σ Q := ru_loc (q := (_, _)) f_A_search_0 rfl rfl rfl
theorem f_A_search_1 : am_cd k_A_search 1 = some ((some .int), .getfield 10, (10, 0, 280, 0, 3, .null)) := rfl
theorem s_A_search_1 {ls : am_L} {st : List Value} {σ : am_H} {Q : Option Value → am_H → Prop} {a : Nat} : ax k_A_search 1 ls (.ref a :: st) σ Q = ax_f (am_fld σ a 10 0) (fun v => ax k_A_search 4 ls (v :: st) σ Q) := ru_getf f_A_search_1 rfl
theorem f_A_search_4 : am_cd k_A_search 4 = some ((some .int), .iload_n 1, (0, 0, 0, 0, 0, .null)) := rfl
theorem s_A_search_4 {a0 a2 a3 : Option Value} {st : List Value} {σ : am_H} {Q : Option Value → am_H → Prop} {x : Int32} : ax k_A_search 4 [a0, some (.int x), a2, a3] st σ Q = ax k_A_search 5 [a0, some (.int x), a2, a3] (.int x :: st) σ Q := ru_loc (q := (_, _)) f_A_search_4 rfl rfl rfl
theorem f_A_search_5 : am_cd k_A_search 5 = some ((some .int), .invokevirtual 113, (60, 1, 423, 0, 9, .null)) := rfl
theorem s_A_search_5 {ls : am_L} {st : List Value} {σ : am_H} {Q : Option Value → am_H → Prop} {p0 : Int32} {b : Nat} (hi : am_is σ b 9) (h8 : am_s8 st) : ax k_A_search 5 ls (.int p0 :: .ref b :: st) σ Q = ax k_WordTree_isWord 0 [some (.ref b), some (.int p0)] [] σ (ax_k k_A_search 8 ls st Q) := ru_vir (M' := rk_WordTree_isWord) f_A_search_5 rfl rfl rfl rfl hi h8 rfl rfl rfl rfl rfl
theorem f_A_search_8 : am_cd k_A_search 8 = some ((some .int), .ifCond .eq 11, (19, 0, 0, 0, 0, .null)) := rfl
theorem s_A_search_8 {ls : am_L} {st : List Value} {σ : am_H} {Q : Option Value → am_H → Prop} {x : Int32} : ax k_A_search 8 ls (.int x :: st) σ Q = (if x = 0 then ax k_A_search 19 ls st σ Q else ax k_A_search 11 ls st σ Q) := (ru_if f_A_search_8 rfl).trans (ru_i_eq _ _ _ _)
theorem f_A_search_11 : am_cd k_A_search 11 = some ((some .int), .aload_n 0, (0, 0, 0, 0, 0, .null)) := rfl
theorem s_A_search_11 {a1 a2 a3 : Option Value} {st : List Value} {σ : am_H} {Q : Option Value → am_H → Prop} {x : Nat} : ax k_A_search 11 [some (.ref x), a1, a2, a3] st σ Q = ax k_A_search 12 [some (.ref x), a1, a2, a3] (.ref x :: st) σ Q := ru_loc (q := (_, _)) f_A_search_11 rfl rfl rfl
theorem f_A_search_12 : am_cd k_A_search 12 = some ((some .int), .iload_n 2, (0, 0, 0, 0, 0, .null)) := rfl
theorem s_A_search_12 {a0 a1 a3 : Option Value} {st : List Value} {σ : am_H} {Q : Option Value → am_H → Prop} {x : Int32} : ax k_A_search 12 [a0, a1, some (.int x), a3] st σ Q = ax k_A_search 13 [a0, a1, some (.int x), a3] (.int x :: st) σ Q := ru_loc (q := (_, _)) f_A_search_12 rfl rfl rfl
theorem f_A_search_13 : am_cd k_A_search 13 = some ((some .int), .invokevirtual 97, (105, 1, 384, 0, 10, .null)) := rfl
theorem s_A_search_13 {ls : am_L} {st : List Value} {σ : am_H} {Q : Option Value → am_H → Prop} {p0 : Int32} {b : Nat} (hi : am_is σ b 10) (h8 : am_s8 st) : ax k_A_search 13 ls (.int p0 :: .ref b :: st) σ Q = ax k_A_isPast 0 [some (.ref b), some (.int p0)] [] σ (ax_k k_A_search 16 ls st Q) := ru_vir (M' := rk_A_isPast) f_A_search_13 rfl rfl rfl rfl hi h8 rfl rfl rfl rfl rfl
theorem f_A_search_16 : am_cd k_A_search 16 = some ((some .int), .ifCond .ne 5, (21, 0, 0, 0, 0, .null)) := rfl
theorem s_A_search_16 {ls : am_L} {st : List Value} {σ : am_H} {Q : Option Value → am_H → Prop} {x : Int32} : ax k_A_search 16 ls (.int x :: st) σ Q = (if x = 0 then ax k_A_search 19 ls st σ Q else ax k_A_search 21 ls st σ Q) := (ru_if f_A_search_16 rfl).trans (ru_i_ne _ _ _ _)
theorem f_A_search_19 : am_cd k_A_search 19 = some ((some .int), .iconst (-1), (0, 0, 0, 0, 0, .null)) := rfl
theorem s_A_search_19 {ls : am_L} {st : List Value} {σ : am_H} {Q : Option Value → am_H → Prop} : ax k_A_search 19 ls st σ Q = ax k_A_search 20 ls (.int (-1) :: st) σ Q := ru_iconst f_A_search_19 (by decide +kernel) rfl
theorem f_A_search_20 : am_cd k_A_search 20 = some ((some .int), .ireturn, (0, 0, 0, 0, 0, .null)) := rfl
theorem s_A_search_20 {ls : am_L} {σ : am_H} {Q : Option Value → am_H → Prop} {v : Int32} : ax k_A_search 20 ls [.int v] σ Q = Q (some (.int v)) σ := ru_iretI f_A_search_20
theorem f_A_search_21 : am_cd k_A_search 21 = some ((some .int), .aload_n 0, (0, 0, 0, 0, 0, .null)) := rfl
theorem s_A_search_21 {a1 a2 a3 : Option Value} {st : List Value} {σ : am_H} {Q : Option Value → am_H → Prop} {x : Nat} : ax k_A_search 21 [some (.ref x), a1, a2, a3] st σ Q = ax k_A_search 22 [some (.ref x), a1, a2, a3] (.ref x :: st) σ Q := ru_loc (q := (_, _)) f_A_search_21 rfl rfl rfl
theorem f_A_search_22 : am_cd k_A_search 22 = some ((some .int), .iload_n 1, (0, 0, 0, 0, 0, .null)) := rfl
theorem s_A_search_22 {a0 a2 a3 : Option Value} {st : List Value} {σ : am_H} {Q : Option Value → am_H → Prop} {x : Int32} : ax k_A_search 22 [a0, some (.int x), a2, a3] st σ Q = ax k_A_search 23 [a0, some (.int x), a2, a3] (.int x :: st) σ Q := ru_loc (q := (_, _)) f_A_search_22 rfl rfl rfl
theorem f_A_search_23 : am_cd k_A_search 23 = some ((some .int), .iload_n 2, (0, 0, 0, 0, 0, .null)) := rfl
theorem s_A_search_23 {a0 a1 a3 : Option Value} {st : List Value} {σ : am_H} {Q : Option Value → am_H → Prop} {x : Int32} : ax k_A_search 23 [a0, a1, some (.int x), a3] st σ Q = ax k_A_search 24 [a0, a1, some (.int x), a3] (.int x :: st) σ Q := ru_loc (q := (_, _)) f_A_search_23 rfl rfl rfl
theorem f_A_search_24 : am_cd k_A_search 24 = some ((some .int), .iload_n 3, (0, 0, 0, 0, 0, .null)) := rfl
theorem s_A_search_24 {a0 a1 a2 : Option Value} {st : List Value} {σ : am_H} {Q : Option Value → am_H → Prop} {x : Int32} : ax k_A_search 24 [a0, a1, a2, some (.int x)] st σ Q = ax k_A_search 25 [a0, a1, a2, some (.int x)] (.int x :: st) σ Q := ru_loc (q := (_, _)) f_A_search_24 rfl rfl rfl
theorem f_A_search_25 : am_cd k_A_search 25 = some ((some .int), .invokevirtual 120, (107, 3, 434, 0, 10, .null)) := rfl
theorem s_A_search_25 {ls : am_L} {st : List Value} {σ : am_H} {Q : Option Value → am_H → Prop} {p0 : Int32} {p1 : Int32} {p2 : Int32} {b : Nat} (hi : am_is σ b 10) (h8 : am_s8 st) : ax k_A_search 25 ls (.int p2 :: .int p1 :: .int p0 :: .ref b :: st) σ Q = ax k_A_picturesWith 0 [some (.ref b), some (.int p0), some (.int p1), some (.int p2)] [] σ (ax_k k_A_search 28 ls st Q) := ru_vir (M' := rk_A_picturesWith) f_A_search_25 rfl rfl rfl rfl hi h8 rfl rfl rfl rfl rfl
theorem f_A_search_28 : am_cd k_A_search 28 = some ((some .int), .invokestatic 128, (173, 1, 462, 0, 12, .null)) := rfl
theorem s_A_search_28 {ls : am_L} {st : List Value} {σ : am_H} {Q : Option Value → am_H → Prop} {p0 : Int64} (h8 : am_s8 st) : ax k_A_search 28 ls (.long p0 :: st) σ Q = ax k_Long_bitCount 0 [some (.long p0), none] [] σ (ax_k k_A_search 31 ls st Q) := ru_sta (M' := rk_Long_bitCount) f_A_search_28 rfl (by decide) rfl (by simp) rfl h8 rfl rfl rfl rfl rfl
theorem f_A_search_31 : am_cd k_A_search 31 = some ((some .int), .ireturn, (0, 0, 0, 0, 0, .null)) := rfl
theorem s_A_search_31 {ls : am_L} {σ : am_H} {Q : Option Value → am_H → Prop} {v : Int32} : ax k_A_search 31 ls [.int v] σ Q = Q (some (.int v)) σ := ru_iretI f_A_search_31
theorem f_A_found_0 : am_cd k_A_found 0 = some ((some .int), .aload_n 0, (0, 0, 0, 0, 0, .null)) := rfl
theorem s_A_found_0 {a1 a2 a3 a4 a5 a6 a7 a8 : Option Value} {st : List Value} {σ : am_H} {Q : Option Value → am_H → Prop} {x : Nat} : ax k_A_found 0 [some (.ref x), a1, a2, a3, a4, a5, a6, a7, a8] st σ Q = ax k_A_found 1 [some (.ref x), a1, a2, a3, a4, a5, a6, a7, a8] (.ref x :: st) σ Q := ru_loc (q := (_, _)) f_A_found_0 rfl rfl rfl
theorem f_A_found_1 : am_cd k_A_found 1 = some ((some .int), .getfield 10, (10, 0, 280, 0, 3, .null)) := rfl
theorem s_A_found_1 {ls : am_L} {st : List Value} {σ : am_H} {Q : Option Value → am_H → Prop} {a : Nat} : ax k_A_found 1 ls (.ref a :: st) σ Q = ax_f (am_fld σ a 10 0) (fun v => ax k_A_found 4 ls (v :: st) σ Q) := ru_getf f_A_found_1 rfl
theorem f_A_found_4 : am_cd k_A_found 4 = some ((some .int), .iload_n 1, (0, 0, 0, 0, 0, .null)) := rfl
theorem s_A_found_4 {a0 a2 a3 a4 a5 a6 a7 a8 : Option Value} {st : List Value} {σ : am_H} {Q : Option Value → am_H → Prop} {x : Int32} : ax k_A_found 4 [a0, some (.int x), a2, a3, a4, a5, a6, a7, a8] st σ Q = ax k_A_found 5 [a0, some (.int x), a2, a3, a4, a5, a6, a7, a8] (.int x :: st) σ Q := ru_loc (q := (_, _)) f_A_found_4 rfl rfl rfl
theorem f_A_found_5 : am_cd k_A_found 5 = some ((some .int), .invokevirtual 113, (60, 1, 423, 0, 9, .null)) := rfl
theorem s_A_found_5 {ls : am_L} {st : List Value} {σ : am_H} {Q : Option Value → am_H → Prop} {p0 : Int32} {b : Nat} (hi : am_is σ b 9) (h8 : am_s8 st) : ax k_A_found 5 ls (.int p0 :: .ref b :: st) σ Q = ax k_WordTree_isWord 0 [some (.ref b), some (.int p0)] [] σ (ax_k k_A_found 8 ls st Q) := ru_vir (M' := rk_WordTree_isWord) f_A_found_5 rfl rfl rfl rfl hi h8 rfl rfl rfl rfl rfl
theorem f_A_found_8 : am_cd k_A_found 8 = some ((some .int), .ifCond .eq 11, (19, 0, 0, 0, 0, .null)) := rfl
theorem s_A_found_8 {ls : am_L} {st : List Value} {σ : am_H} {Q : Option Value → am_H → Prop} {x : Int32} : ax k_A_found 8 ls (.int x :: st) σ Q = (if x = 0 then ax k_A_found 19 ls st σ Q else ax k_A_found 11 ls st σ Q) := (ru_if f_A_found_8 rfl).trans (ru_i_eq _ _ _ _)
theorem f_A_found_11 : am_cd k_A_found 11 = some ((some .int), .aload_n 0, (0, 0, 0, 0, 0, .null)) := rfl
theorem s_A_found_11 {a1 a2 a3 a4 a5 a6 a7 a8 : Option Value} {st : List Value} {σ : am_H} {Q : Option Value → am_H → Prop} {x : Nat} : ax k_A_found 11 [some (.ref x), a1, a2, a3, a4, a5, a6, a7, a8] st σ Q = ax k_A_found 12 [some (.ref x), a1, a2, a3, a4, a5, a6, a7, a8] (.ref x :: st) σ Q := ru_loc (q := (_, _)) f_A_found_11 rfl rfl rfl
theorem f_A_found_12 : am_cd k_A_found 12 = some ((some .int), .iload_n 2, (0, 0, 0, 0, 0, .null)) := rfl
theorem s_A_found_12 {a0 a1 a3 a4 a5 a6 a7 a8 : Option Value} {st : List Value} {σ : am_H} {Q : Option Value → am_H → Prop} {x : Int32} : ax k_A_found 12 [a0, a1, some (.int x), a3, a4, a5, a6, a7, a8] st σ Q = ax k_A_found 13 [a0, a1, some (.int x), a3, a4, a5, a6, a7, a8] (.int x :: st) σ Q := ru_loc (q := (_, _)) f_A_found_12 rfl rfl rfl
theorem f_A_found_13 : am_cd k_A_found 13 = some ((some .int), .invokevirtual 97, (105, 1, 384, 0, 10, .null)) := rfl
theorem s_A_found_13 {ls : am_L} {st : List Value} {σ : am_H} {Q : Option Value → am_H → Prop} {p0 : Int32} {b : Nat} (hi : am_is σ b 10) (h8 : am_s8 st) : ax k_A_found 13 ls (.int p0 :: .ref b :: st) σ Q = ax k_A_isPast 0 [some (.ref b), some (.int p0)] [] σ (ax_k k_A_found 16 ls st Q) := ru_vir (M' := rk_A_isPast) f_A_found_13 rfl rfl rfl rfl hi h8 rfl rfl rfl rfl rfl
theorem f_A_found_16 : am_cd k_A_found 16 = some ((some .int), .ifCond .ne 5, (21, 0, 0, 0, 0, .null)) := rfl
theorem s_A_found_16 {ls : am_L} {st : List Value} {σ : am_H} {Q : Option Value → am_H → Prop} {x : Int32} : ax k_A_found 16 ls (.int x :: st) σ Q = (if x = 0 then ax k_A_found 19 ls st σ Q else ax k_A_found 21 ls st σ Q) := (ru_if f_A_found_16 rfl).trans (ru_i_ne _ _ _ _)
theorem f_A_found_19 : am_cd k_A_found 19 = some ((some .int), .iconst (-1), (0, 0, 0, 0, 0, .null)) := rfl
theorem s_A_found_19 {ls : am_L} {st : List Value} {σ : am_H} {Q : Option Value → am_H → Prop} : ax k_A_found 19 ls st σ Q = ax k_A_found 20 ls (.int (-1) :: st) σ Q := ru_iconst f_A_found_19 (by decide +kernel) rfl
theorem f_A_found_20 : am_cd k_A_found 20 = some ((some .int), .ireturn, (0, 0, 0, 0, 0, .null)) := rfl
theorem s_A_found_20 {ls : am_L} {σ : am_H} {Q : Option Value → am_H → Prop} {v : Int32} : ax k_A_found 20 ls [.int v] σ Q = Q (some (.int v)) σ := ru_iretI f_A_found_20
theorem f_A_found_21 : am_cd k_A_found 21 = some ((some .int), .aload_n 0, (0, 0, 0, 0, 0, .null)) := rfl
theorem s_A_found_21 {a1 a2 a3 a4 a5 a6 a7 a8 : Option Value} {st : List Value} {σ : am_H} {Q : Option Value → am_H → Prop} {x : Nat} : ax k_A_found 21 [some (.ref x), a1, a2, a3, a4, a5, a6, a7, a8] st σ Q = ax k_A_found 22 [some (.ref x), a1, a2, a3, a4, a5, a6, a7, a8] (.ref x :: st) σ Q := ru_loc (q := (_, _)) f_A_found_21 rfl rfl rfl
theorem f_A_found_22 : am_cd k_A_found 22 = some ((some .int), .iload_n 1, (0, 0, 0, 0, 0, .null)) := rfl
theorem s_A_found_22 {a0 a2 a3 a4 a5 a6 a7 a8 : Option Value} {st : List Value} {σ : am_H} {Q : Option Value → am_H → Prop} {x : Int32} : ax k_A_found 22 [a0, some (.int x), a2, a3, a4, a5, a6, a7, a8] st σ Q = ax k_A_found 23 [a0, some (.int x), a2, a3, a4, a5, a6, a7, a8] (.int x :: st) σ Q := ru_loc (q := (_, _)) f_A_found_22 rfl rfl rfl
theorem f_A_found_23 : am_cd k_A_found 23 = some ((some .int), .iload_n 2, (0, 0, 0, 0, 0, .null)) := rfl
theorem s_A_found_23 {a0 a1 a3 a4 a5 a6 a7 a8 : Option Value} {st : List Value} {σ : am_H} {Q : Option Value → am_H → Prop} {x : Int32} : ax k_A_found 23 [a0, a1, some (.int x), a3, a4, a5, a6, a7, a8] st σ Q = ax k_A_found 24 [a0, a1, some (.int x), a3, a4, a5, a6, a7, a8] (.int x :: st) σ Q := ru_loc (q := (_, _)) f_A_found_23 rfl rfl rfl
theorem f_A_found_24 : am_cd k_A_found 24 = some ((some .int), .iload_n 3, (0, 0, 0, 0, 0, .null)) := rfl
theorem s_A_found_24 {a0 a1 a2 a4 a5 a6 a7 a8 : Option Value} {st : List Value} {σ : am_H} {Q : Option Value → am_H → Prop} {x : Int32} : ax k_A_found 24 [a0, a1, a2, some (.int x), a4, a5, a6, a7, a8] st σ Q = ax k_A_found 25 [a0, a1, a2, some (.int x), a4, a5, a6, a7, a8] (.int x :: st) σ Q := ru_loc (q := (_, _)) f_A_found_24 rfl rfl rfl
theorem f_A_found_25 : am_cd k_A_found 25 = some ((some .int), .invokevirtual 120, (107, 3, 434, 0, 10, .null)) := rfl
theorem s_A_found_25 {ls : am_L} {st : List Value} {σ : am_H} {Q : Option Value → am_H → Prop} {p0 : Int32} {p1 : Int32} {p2 : Int32} {b : Nat} (hi : am_is σ b 10) (h8 : am_s8 st) : ax k_A_found 25 ls (.int p2 :: .int p1 :: .int p0 :: .ref b :: st) σ Q = ax k_A_picturesWith 0 [some (.ref b), some (.int p0), some (.int p1), some (.int p2)] [] σ (ax_k k_A_found 28 ls st Q) := ru_vir (M' := rk_A_picturesWith) f_A_found_25 rfl rfl rfl rfl hi h8 rfl rfl rfl rfl rfl
theorem f_A_found_28 : am_cd k_A_found 28 = some ((some .int), .lstore 5, (0, 0, 0, 0, 0, .null)) := rfl
theorem s_A_found_28 {a0 a1 a2 a3 a4 a5 a6 a7 a8 : Option Value} {st : List Value} {σ : am_H} {Q : Option Value → am_H → Prop} {x : Int64} (hc : am_c2 a4 = false) : ax k_A_found 28 [a0, a1, a2, a3, a4, a5, a6, a7, a8] (.long x :: st) σ Q = ax k_A_found 30 [a0, a1, a2, a3, a4, some (.long x), none, a7, a8] st σ Q := ru_lstore f_A_found_28 (Nat.le_of_ble_eq_true rfl) (ru_st2 (Nat.le_of_ble_eq_true rfl) (am_clr_c2 hc rfl) rfl) rfl
theorem f_A_found_30 : am_cd k_A_found 30 = some ((some .int), .iconst 0, (0, 0, 0, 0, 0, .null)) := rfl
theorem s_A_found_30 {ls : am_L} {st : List Value} {σ : am_H} {Q : Option Value → am_H → Prop} : ax k_A_found 30 ls st σ Q = ax k_A_found 31 ls (.int 0 :: st) σ Q := ru_iconst f_A_found_30 (by decide +kernel) rfl
theorem f_A_found_31 : am_cd k_A_found 31 = some ((some .int), .istore 7, (0, 0, 0, 0, 0, .null)) := rfl
theorem s_A_found_31 {a0 a1 a2 a3 a4 a5 a6 a7 a8 : Option Value} {st : List Value} {σ : am_H} {Q : Option Value → am_H → Prop} {x : Int32} (hc : am_c2 a6 = false) : ax k_A_found 31 [a0, a1, a2, a3, a4, a5, a6, a7, a8] (.int x :: st) σ Q = ax k_A_found 33 [a0, a1, a2, a3, a4, a5, a6, some (.int x), a8] st σ Q := ru_istore f_A_found_31 (Nat.le_of_ble_eq_true rfl) (ru_st1 (Nat.le_of_ble_eq_true rfl) (am_clr_c2 hc rfl) rfl) rfl
theorem f_A_found_33 : am_cd k_A_found 33 = some ((some .int), .iconst 0, (0, 0, 0, 0, 0, .null)) := rfl
theorem s_A_found_33 {ls : am_L} {st : List Value} {σ : am_H} {Q : Option Value → am_H → Prop} : ax k_A_found 33 ls st σ Q = ax k_A_found 34 ls (.int 0 :: st) σ Q := ru_iconst f_A_found_33 (by decide +kernel) rfl
theorem f_A_found_34 : am_cd k_A_found 34 = some ((some .int), .istore 8, (0, 0, 0, 0, 0, .null)) := rfl
theorem s_A_found_34 {a0 a1 a2 a3 a4 a5 a6 a7 a8 : Option Value} {st : List Value} {σ : am_H} {Q : Option Value → am_H → Prop} {x : Int32} (hc : am_c2 a7 = false) : ax k_A_found 34 [a0, a1, a2, a3, a4, a5, a6, a7, a8] (.int x :: st) σ Q = ax k_A_found 36 [a0, a1, a2, a3, a4, a5, a6, a7, some (.int x)] st σ Q := ru_istore f_A_found_34 (Nat.le_of_ble_eq_true rfl) (ru_st1 (Nat.le_of_ble_eq_true rfl) (am_clr_c2 hc rfl) rfl) rfl
theorem f_A_found_36 : am_cd k_A_found 36 = some ((some .int), .iload 8, (0, 0, 0, 0, 0, .null)) := rfl
theorem s_A_found_36 {a0 a1 a2 a3 a4 a5 a6 a7 : Option Value} {st : List Value} {σ : am_H} {Q : Option Value → am_H → Prop} {x : Int32} : ax k_A_found 36 [a0, a1, a2, a3, a4, a5, a6, a7, some (.int x)] st σ Q = ax k_A_found 38 [a0, a1, a2, a3, a4, a5, a6, a7, some (.int x)] (.int x :: st) σ Q := ru_loc (q := (_, _)) f_A_found_36 rfl rfl rfl
theorem f_A_found_38 : am_cd k_A_found 38 = some ((some .int), .bipush 40, (0, 0, 0, 0, 0, .null)) := rfl
theorem s_A_found_38 {ls : am_L} {st : List Value} {σ : am_H} {Q : Option Value → am_H → Prop} : ax k_A_found 38 ls st σ Q = ax k_A_found 40 ls (.int 40 :: st) σ Q := ru_bipush f_A_found_38 (by decide +kernel) rfl
theorem f_A_found_40 : am_cd k_A_found 40 = some ((some .int), .if_icmp .ge 32, (72, 0, 0, 0, 0, .null)) := rfl
theorem s_A_found_40 {ls : am_L} {st : List Value} {σ : am_H} {Q : Option Value → am_H → Prop} {x y : Int32} : ax k_A_found 40 ls (.int y :: .int x :: st) σ Q = (if x < y then ax k_A_found 43 ls st σ Q else ax k_A_found 72 ls st σ Q) := (ru_icmp f_A_found_40 rfl).trans (ru_i_ge _ _ _ _)
theorem f_A_found_43 : am_cd k_A_found 43 = some ((some .int), .lload 5, (0, 0, 0, 0, 0, .null)) := rfl
theorem s_A_found_43 {a0 a1 a2 a3 a4 a6 a7 a8 : Option Value} {st : List Value} {σ : am_H} {Q : Option Value → am_H → Prop} {x : Int64} : ax k_A_found 43 [a0, a1, a2, a3, a4, some (.long x), a6, a7, a8] st σ Q = ax k_A_found 45 [a0, a1, a2, a3, a4, some (.long x), a6, a7, a8] (.long x :: st) σ Q := ru_loc (q := (_, _)) f_A_found_43 rfl rfl rfl
theorem f_A_found_45 : am_cd k_A_found 45 = some ((some .int), .iload 8, (0, 0, 0, 0, 0, .null)) := rfl
theorem s_A_found_45 {a0 a1 a2 a3 a4 a5 a6 a7 : Option Value} {st : List Value} {σ : am_H} {Q : Option Value → am_H → Prop} {x : Int32} : ax k_A_found 45 [a0, a1, a2, a3, a4, a5, a6, a7, some (.int x)] st σ Q = ax k_A_found 47 [a0, a1, a2, a3, a4, a5, a6, a7, some (.int x)] (.int x :: st) σ Q := ru_loc (q := (_, _)) f_A_found_45 rfl rfl rfl
theorem f_A_found_47 : am_cd k_A_found 47 = some ((some .int), .invokestatic 124, (104, 2, 457, 0, 10, .null)) := rfl
theorem s_A_found_47 {ls : am_L} {st : List Value} {σ : am_H} {Q : Option Value → am_H → Prop} {p0 : Int64} {p1 : Int32} (h8 : am_s8 st) : ax k_A_found 47 ls (.int p1 :: .long p0 :: st) σ Q = ax k_A_holds 0 [some (.long p0), none, some (.int p1)] [] σ (ax_k k_A_found 50 ls st Q) := ru_sta (M' := rk_A_holds) f_A_found_47 rfl (by decide) rfl (by simp) rfl h8 rfl rfl rfl rfl rfl
theorem f_A_found_50 : am_cd k_A_found 50 = some ((some .int), .ifCond .eq 16, (66, 0, 0, 0, 0, .null)) := rfl
theorem s_A_found_50 {ls : am_L} {st : List Value} {σ : am_H} {Q : Option Value → am_H → Prop} {x : Int32} : ax k_A_found 50 ls (.int x :: st) σ Q = (if x = 0 then ax k_A_found 66 ls st σ Q else ax k_A_found 53 ls st σ Q) := (ru_if f_A_found_50 rfl).trans (ru_i_eq _ _ _ _)
theorem f_A_found_53 : am_cd k_A_found 53 = some ((some .int), .iload 7, (0, 0, 0, 0, 0, .null)) := rfl
theorem s_A_found_53 {a0 a1 a2 a3 a4 a5 a6 a8 : Option Value} {st : List Value} {σ : am_H} {Q : Option Value → am_H → Prop} {x : Int32} : ax k_A_found 53 [a0, a1, a2, a3, a4, a5, a6, some (.int x), a8] st σ Q = ax k_A_found 55 [a0, a1, a2, a3, a4, a5, a6, some (.int x), a8] (.int x :: st) σ Q := ru_loc (q := (_, _)) f_A_found_53 rfl rfl rfl
theorem f_A_found_55 : am_cd k_A_found 55 = some ((some .int), .iload 4, (0, 0, 0, 0, 0, .null)) := rfl
theorem s_A_found_55 {a0 a1 a2 a3 a5 a6 a7 a8 : Option Value} {st : List Value} {σ : am_H} {Q : Option Value → am_H → Prop} {x : Int32} : ax k_A_found 55 [a0, a1, a2, a3, some (.int x), a5, a6, a7, a8] st σ Q = ax k_A_found 57 [a0, a1, a2, a3, some (.int x), a5, a6, a7, a8] (.int x :: st) σ Q := ru_loc (q := (_, _)) f_A_found_55 rfl rfl rfl
theorem f_A_found_57 : am_cd k_A_found 57 = some ((some .int), .if_icmp .ne 6, (63, 0, 0, 0, 0, .null)) := rfl
theorem s_A_found_57 {ls : am_L} {st : List Value} {σ : am_H} {Q : Option Value → am_H → Prop} {x y : Int32} : ax k_A_found 57 ls (.int y :: .int x :: st) σ Q = (if x = y then ax k_A_found 60 ls st σ Q else ax k_A_found 63 ls st σ Q) := (ru_icmp f_A_found_57 rfl).trans (ru_i_ne _ _ _ _)
theorem f_A_found_60 : am_cd k_A_found 60 = some ((some .int), .iload 8, (0, 0, 0, 0, 0, .null)) := rfl
theorem s_A_found_60 {a0 a1 a2 a3 a4 a5 a6 a7 : Option Value} {st : List Value} {σ : am_H} {Q : Option Value → am_H → Prop} {x : Int32} : ax k_A_found 60 [a0, a1, a2, a3, a4, a5, a6, a7, some (.int x)] st σ Q = ax k_A_found 62 [a0, a1, a2, a3, a4, a5, a6, a7, some (.int x)] (.int x :: st) σ Q := ru_loc (q := (_, _)) f_A_found_60 rfl rfl rfl
theorem f_A_found_62 : am_cd k_A_found 62 = some ((some .int), .ireturn, (0, 0, 0, 0, 0, .null)) := rfl
theorem s_A_found_62 {ls : am_L} {σ : am_H} {Q : Option Value → am_H → Prop} {v : Int32} : ax k_A_found 62 ls [.int v] σ Q = Q (some (.int v)) σ := ru_iretI f_A_found_62
theorem f_A_found_63 : am_cd k_A_found 63 = some ((some .int), .iinc 7 1, (0, 0, 0, 0, 0, .null)) := rfl
theorem s_A_found_63 {a0 a1 a2 a3 a4 a5 a6 a8 : Option Value} {st : List Value} {σ : am_H} {Q : Option Value → am_H → Prop} {x : Int32} (hc : am_c2 a6 = false) : ax k_A_found 63 [a0, a1, a2, a3, a4, a5, a6, some (.int x), a8] st σ Q = ax k_A_found 66 [a0, a1, a2, a3, a4, a5, a6, some (.int (x + 1)), a8] st σ Q := ru_iinc f_A_found_63 rfl (Nat.le_of_ble_eq_true rfl) (by decide +kernel) (ru_st1 (Nat.le_of_ble_eq_true rfl) (am_clr_c2 hc rfl) rfl) rfl
theorem f_A_found_66 : am_cd k_A_found 66 = some ((some .int), .iinc 8 1, (0, 0, 0, 0, 0, .null)) := rfl
theorem s_A_found_66 {a0 a1 a2 a3 a4 a5 a6 a7 : Option Value} {st : List Value} {σ : am_H} {Q : Option Value → am_H → Prop} {x : Int32} (hc : am_c2 a7 = false) : ax k_A_found 66 [a0, a1, a2, a3, a4, a5, a6, a7, some (.int x)] st σ Q = ax k_A_found 69 [a0, a1, a2, a3, a4, a5, a6, a7, some (.int (x + 1))] st σ Q := ru_iinc f_A_found_66 rfl (Nat.le_of_ble_eq_true rfl) (by decide +kernel) (ru_st1 (Nat.le_of_ble_eq_true rfl) (am_clr_c2 hc rfl) rfl) rfl
theorem f_A_found_69 : am_cd k_A_found 69 = some ((some .int), .goto (-33), (36, 0, 0, 0, 0, .null)) := rfl
theorem s_A_found_69 {ls : am_L} {st : List Value} {σ : am_H} {Q : Option Value → am_H → Prop} : ax k_A_found 69 ls st σ Q = ax k_A_found 36 ls st σ Q := ru_goto f_A_found_69
theorem f_A_found_72 : am_cd k_A_found 72 = some ((some .int), .iconst (-1), (0, 0, 0, 0, 0, .null)) := rfl
theorem s_A_found_72 {ls : am_L} {st : List Value} {σ : am_H} {Q : Option Value → am_H → Prop} : ax k_A_found 72 ls st σ Q = ax k_A_found 73 ls (.int (-1) :: st) σ Q := ru_iconst f_A_found_72 (by decide +kernel) rfl
theorem f_A_found_73 : am_cd k_A_found 73 = some ((some .int), .ireturn, (0, 0, 0, 0, 0, .null)) := rfl
theorem s_A_found_73 {ls : am_L} {σ : am_H} {Q : Option Value → am_H → Prop} {v : Int32} : ax k_A_found 73 ls [.int v] σ Q = Q (some (.int v)) σ := ru_iretI f_A_found_73
theorem f_A_far_0 : am_cd k_A_far 0 = some ((some .int), .aload_n 0, (0, 0, 0, 0, 0, .null)) := rfl
theorem s_A_far_0 {a1 a2 : Option Value} {st : List Value} {σ : am_H} {Q : Option Value → am_H → Prop} {x : Nat} : ax k_A_far 0 [some (.ref x), a1, a2] st σ Q = ax k_A_far 1 [some (.ref x), a1, a2] (.ref x :: st) σ Q := ru_loc (q := (_, _)) f_A_far_0 rfl rfl rfl
theorem f_A_far_1 : am_cd k_A_far 1 = some ((some .int), .getfield 19, (10, 1, 281, 0, 3, .null)) := rfl
theorem s_A_far_1 {ls : am_L} {st : List Value} {σ : am_H} {Q : Option Value → am_H → Prop} {a : Nat} : ax k_A_far 1 ls (.ref a :: st) σ Q = ax_f (am_fld σ a 10 1) (fun v => ax k_A_far 4 ls (v :: st) σ Q) := ru_getf f_A_far_1 rfl
theorem f_A_far_4 : am_cd k_A_far 4 = some ((some .int), .iload_n 1, (0, 0, 0, 0, 0, .null)) := rfl
theorem s_A_far_4 {a0 a2 : Option Value} {st : List Value} {σ : am_H} {Q : Option Value → am_H → Prop} {x : Int32} : ax k_A_far 4 [a0, some (.int x), a2] st σ Q = ax k_A_far 5 [a0, some (.int x), a2] (.int x :: st) σ Q := ru_loc (q := (_, _)) f_A_far_4 rfl rfl rfl
theorem f_A_far_5 : am_cd k_A_far 5 = some ((some .int), .iload_n 2, (0, 0, 0, 0, 0, .null)) := rfl
theorem s_A_far_5 {a0 a1 : Option Value} {st : List Value} {σ : am_H} {Q : Option Value → am_H → Prop} {x : Int32} : ax k_A_far 5 [a0, a1, some (.int x)] st σ Q = ax k_A_far 6 [a0, a1, some (.int x)] (.int x :: st) σ Q := ru_loc (q := (_, _)) f_A_far_5 rfl rfl rfl
theorem f_A_far_6 : am_cd k_A_far 6 = some ((some .int), .invokevirtual 134, (5, 2, 476, 0, 0, .null)) := rfl
theorem s_A_far_6 {ls : am_L} {st : List Value} {σ : am_H} {Q : Option Value → am_H → Prop} {p0 : Int32} {p1 : Int32} {b : Nat} (hi : am_is σ b 0) (h8 : am_s8 st) : ax k_A_far 6 ls (.int p1 :: .int p0 :: .ref b :: st) σ Q = ax k_Album_distance 0 [some (.ref b), some (.int p0), some (.int p1)] [] σ (ax_k k_A_far 9 ls st Q) := ru_vir (M' := rk_Album_distance) f_A_far_6 rfl rfl rfl rfl hi h8 rfl rfl rfl rfl rfl
theorem f_A_far_9 : am_cd k_A_far 9 = some ((some .int), .ireturn, (0, 0, 0, 0, 0, .null)) := rfl
theorem s_A_far_9 {ls : am_L} {σ : am_H} {Q : Option Value → am_H → Prop} {v : Int32} : ax k_A_far 9 ls [.int v] σ Q = Q (some (.int v)) σ := ru_iretI f_A_far_9
theorem f_A_limit_0 : am_cd k_A_limit 0 = some ((some .boolean), .iload_n 1, (0, 0, 0, 0, 0, .null)) := rfl
theorem s_A_limit_0 {a0 : Option Value} {st : List Value} {σ : am_H} {Q : Option Value → am_H → Prop} {x : Int32} : ax k_A_limit 0 [a0, some (.int x)] st σ Q = ax k_A_limit 1 [a0, some (.int x)] (.int x :: st) σ Q := ru_loc (q := (_, _)) f_A_limit_0 rfl rfl rfl
theorem f_A_limit_1 : am_cd k_A_limit 1 = some ((some .boolean), .ifCond .lt 10, (11, 0, 0, 0, 0, .null)) := rfl
theorem s_A_limit_1 {ls : am_L} {st : List Value} {σ : am_H} {Q : Option Value → am_H → Prop} {x : Int32} : ax k_A_limit 1 ls (.int x :: st) σ Q = (if x < 0 then ax k_A_limit 11 ls st σ Q else ax k_A_limit 4 ls st σ Q) := (ru_if f_A_limit_1 rfl).trans (ru_i_lt _ _ _ _)
theorem f_A_limit_4 : am_cd k_A_limit 4 = some ((some .boolean), .iload_n 1, (0, 0, 0, 0, 0, .null)) := rfl
theorem s_A_limit_4 {a0 : Option Value} {st : List Value} {σ : am_H} {Q : Option Value → am_H → Prop} {x : Int32} : ax k_A_limit 4 [a0, some (.int x)] st σ Q = ax k_A_limit 5 [a0, some (.int x)] (.int x :: st) σ Q := ru_loc (q := (_, _)) f_A_limit_4 rfl rfl rfl
theorem f_A_limit_5 : am_cd k_A_limit 5 = some ((some .boolean), .sipush 240, (0, 0, 0, 0, 0, .null)) := rfl
theorem s_A_limit_5 {ls : am_L} {st : List Value} {σ : am_H} {Q : Option Value → am_H → Prop} : ax k_A_limit 5 ls st σ Q = ax k_A_limit 8 ls (.int 240 :: st) σ Q := ru_sipush f_A_limit_5 (by decide +kernel) rfl
theorem f_A_limit_8 : am_cd k_A_limit 8 = some ((some .boolean), .if_icmp .le 5, (13, 0, 0, 0, 0, .null)) := rfl
theorem s_A_limit_8 {ls : am_L} {st : List Value} {σ : am_H} {Q : Option Value → am_H → Prop} {x y : Int32} : ax k_A_limit 8 ls (.int y :: .int x :: st) σ Q = (if y < x then ax k_A_limit 11 ls st σ Q else ax k_A_limit 13 ls st σ Q) := (ru_icmp f_A_limit_8 rfl).trans (ru_i_le _ _ _ _)
theorem f_A_limit_11 : am_cd k_A_limit 11 = some ((some .boolean), .iconst 0, (0, 0, 0, 0, 0, .null)) := rfl
theorem s_A_limit_11 {ls : am_L} {st : List Value} {σ : am_H} {Q : Option Value → am_H → Prop} : ax k_A_limit 11 ls st σ Q = ax k_A_limit 12 ls (.int 0 :: st) σ Q := ru_iconst f_A_limit_11 (by decide +kernel) rfl
theorem f_A_limit_12 : am_cd k_A_limit 12 = some ((some .boolean), .ireturn, (0, 0, 0, 0, 0, .null)) := rfl
theorem s_A_limit_12 {ls : am_L} {σ : am_H} {Q : Option Value → am_H → Prop} {v : Int32} : ax k_A_limit 12 ls ([.int v]) σ Q = (am_nar .boolean v = true ∧ Q (some (.int v)) σ) := ru_iret f_A_limit_12
theorem f_A_limit_13 : am_cd k_A_limit 13 = some ((some .boolean), .aload_n 0, (0, 0, 0, 0, 0, .null)) := rfl
theorem s_A_limit_13 {a1 : Option Value} {st : List Value} {σ : am_H} {Q : Option Value → am_H → Prop} {x : Nat} : ax k_A_limit 13 [some (.ref x), a1] st σ Q = ax k_A_limit 14 [some (.ref x), a1] (.ref x :: st) σ Q := ru_loc (q := (_, _)) f_A_limit_13 rfl rfl rfl
theorem f_A_limit_14 : am_cd k_A_limit 14 = some ((some .boolean), .getfield 19, (10, 1, 281, 0, 3, .null)) := rfl
theorem s_A_limit_14 {ls : am_L} {st : List Value} {σ : am_H} {Q : Option Value → am_H → Prop} {a : Nat} : ax k_A_limit 14 ls (.ref a :: st) σ Q = ax_f (am_fld σ a 10 1) (fun v => ax k_A_limit 17 ls (v :: st) σ Q) := ru_getf f_A_limit_14 rfl
theorem f_A_limit_17 : am_cd k_A_limit 17 = some ((some .boolean), .iload_n 1, (0, 0, 0, 0, 0, .null)) := rfl
theorem s_A_limit_17 {a0 : Option Value} {st : List Value} {σ : am_H} {Q : Option Value → am_H → Prop} {x : Int32} : ax k_A_limit 17 [a0, some (.int x)] st σ Q = ax k_A_limit 18 [a0, some (.int x)] (.int x :: st) σ Q := ru_loc (q := (_, _)) f_A_limit_17 rfl rfl rfl
theorem f_A_limit_18 : am_cd k_A_limit 18 = some ((some .boolean), .putfield 137, (0, 7, 4, 1, 0, .null)) := rfl
theorem s_A_limit_18 {ls : am_L} {st : List Value} {σ : am_H} {Q : Option Value → am_H → Prop} {a : Nat} {v : Value} : ax k_A_limit 18 ls (v :: .ref a :: st) σ Q = ax_f (am_fld σ a 0 7) (fun _ => a < am_top ∧ am_okv 0 v = true ∧ ax k_A_limit 21 ls st (am_put σ a 7 v) Q) := ru_putf f_A_limit_18 rfl
theorem f_A_limit_21 : am_cd k_A_limit 21 = some ((some .boolean), .iconst 1, (0, 0, 0, 0, 0, .null)) := rfl
theorem s_A_limit_21 {ls : am_L} {st : List Value} {σ : am_H} {Q : Option Value → am_H → Prop} : ax k_A_limit 21 ls st σ Q = ax k_A_limit 22 ls (.int 1 :: st) σ Q := ru_iconst f_A_limit_21 (by decide +kernel) rfl
theorem f_A_limit_22 : am_cd k_A_limit 22 = some ((some .boolean), .ireturn, (0, 0, 0, 0, 0, .null)) := rfl
theorem s_A_limit_22 {ls : am_L} {σ : am_H} {Q : Option Value → am_H → Prop} {v : Int32} : ax k_A_limit 22 ls ([.int v]) σ Q = (am_nar .boolean v = true ∧ Q (some (.int v)) σ) := ru_iret f_A_limit_22
theorem f_A_set_0 : am_cd k_A_set 0 = some ((some .int), .aload_n 0, (0, 0, 0, 0, 0, .null)) := rfl
theorem s_A_set_0 {a1 a2 : Option Value} {st : List Value} {σ : am_H} {Q : Option Value → am_H → Prop} {x : Nat} : ax k_A_set 0 [some (.ref x), a1, a2] st σ Q = ax k_A_set 1 [some (.ref x), a1, a2] (.ref x :: st) σ Q := ru_loc (q := (_, _)) f_A_set_0 rfl rfl rfl
theorem f_A_set_1 : am_cd k_A_set 1 = some ((some .int), .getfield 19, (10, 1, 281, 0, 3, .null)) := rfl
theorem s_A_set_1 {ls : am_L} {st : List Value} {σ : am_H} {Q : Option Value → am_H → Prop} {a : Nat} : ax k_A_set 1 ls (.ref a :: st) σ Q = ax_f (am_fld σ a 10 1) (fun v => ax k_A_set 4 ls (v :: st) σ Q) := ru_getf f_A_set_1 rfl
theorem f_A_set_4 : am_cd k_A_set 4 = some ((some .int), .iload_n 1, (0, 0, 0, 0, 0, .null)) := rfl
theorem s_A_set_4 {a0 a2 : Option Value} {st : List Value} {σ : am_H} {Q : Option Value → am_H → Prop} {x : Int32} : ax k_A_set 4 [a0, some (.int x), a2] st σ Q = ax k_A_set 5 [a0, some (.int x), a2] (.int x :: st) σ Q := ru_loc (q := (_, _)) f_A_set_4 rfl rfl rfl
theorem f_A_set_5 : am_cd k_A_set 5 = some ((some .int), .invokevirtual 110, (1, 1, 419, 0, 0, .null)) := rfl
theorem s_A_set_5 {ls : am_L} {st : List Value} {σ : am_H} {Q : Option Value → am_H → Prop} {p0 : Int32} {b : Nat} (hi : am_is σ b 0) (h8 : am_s8 st) : ax k_A_set 5 ls (.int p0 :: .ref b :: st) σ Q = ax k_Album_isPicture 0 [some (.ref b), some (.int p0)] [] σ (ax_k k_A_set 8 ls st Q) := ru_vir (M' := rk_Album_isPicture) f_A_set_5 rfl rfl rfl rfl hi h8 rfl rfl rfl rfl rfl
theorem f_A_set_8 : am_cd k_A_set 8 = some ((some .int), .ifCond .ne 5, (13, 0, 0, 0, 0, .null)) := rfl
theorem s_A_set_8 {ls : am_L} {st : List Value} {σ : am_H} {Q : Option Value → am_H → Prop} {x : Int32} : ax k_A_set 8 ls (.int x :: st) σ Q = (if x = 0 then ax k_A_set 11 ls st σ Q else ax k_A_set 13 ls st σ Q) := (ru_if f_A_set_8 rfl).trans (ru_i_ne _ _ _ _)
theorem f_A_set_11 : am_cd k_A_set 11 = some ((some .int), .iconst (-1), (0, 0, 0, 0, 0, .null)) := rfl
theorem s_A_set_11 {ls : am_L} {st : List Value} {σ : am_H} {Q : Option Value → am_H → Prop} : ax k_A_set 11 ls st σ Q = ax k_A_set 12 ls (.int (-1) :: st) σ Q := ru_iconst f_A_set_11 (by decide +kernel) rfl
theorem f_A_set_12 : am_cd k_A_set 12 = some ((some .int), .ireturn, (0, 0, 0, 0, 0, .null)) := rfl
theorem s_A_set_12 {ls : am_L} {σ : am_H} {Q : Option Value → am_H → Prop} {v : Int32} : ax k_A_set 12 ls [.int v] σ Q = Q (some (.int v)) σ := ru_iretI f_A_set_12
theorem f_A_set_13 : am_cd k_A_set 13 = some ((some .int), .iload_n 2, (0, 0, 0, 0, 0, .null)) := rfl
theorem s_A_set_13 {a0 a1 : Option Value} {st : List Value} {σ : am_H} {Q : Option Value → am_H → Prop} {x : Int32} : ax k_A_set 13 [a0, a1, some (.int x)] st σ Q = ax k_A_set 14 [a0, a1, some (.int x)] (.int x :: st) σ Q := ru_loc (q := (_, _)) f_A_set_13 rfl rfl rfl
theorem f_A_set_14 : am_cd k_A_set 14 = some ((some .int), .lookupswitch 54 #[(0, 26), (1, 42)], (0, 0, 0, 0, 0, .null)) := rfl
theorem s_A_set_14 {ls : am_L} {st : List Value} {σ : am_H} {Q : Option Value → am_H → Prop} {x : Int32} : ax k_A_set 14 ls (.int x :: st) σ Q = (if x = 0 then ax k_A_set 40 ls st σ Q else (if x = 1 then ax k_A_set 56 ls st σ Q else ax k_A_set 68 ls st σ Q)) := by
  by_cases h0 : x = 0
  · rw [if_pos h0]; subst h0; exact ru_look f_A_set_14 (by decide)
  by_cases h1 : x = 1
  · rw [if_neg h0, if_pos h1]; subst h1; exact ru_look f_A_set_14 (by decide)
  rw [if_neg h0, if_neg h1]
  have e0 : ¬ x.toInt = 0 := fun z => h0 (Int32.toInt_inj.mp (z.trans (by decide)))
  have e1 : ¬ x.toInt = 1 := fun z => h1 (Int32.toInt_inj.mp (z.trans (by decide)))
  exact ru_look f_A_set_14 (by simp only [Op.lookupswitch.offset_cons]; rw [if_neg (fun z : (0 : Int) = x.toInt => e0 z.symm), if_neg (fun z : (1 : Int) = x.toInt => e1 z.symm)]; rfl)
theorem f_A_set_40 : am_cd k_A_set 40 = some ((some .int), .aload_n 0, (0, 0, 0, 0, 0, .null)) := rfl
theorem s_A_set_40 {a1 a2 : Option Value} {st : List Value} {σ : am_H} {Q : Option Value → am_H → Prop} {x : Nat} : ax k_A_set 40 [some (.ref x), a1, a2] st σ Q = ax k_A_set 41 [some (.ref x), a1, a2] (.ref x :: st) σ Q := ru_loc (q := (_, _)) f_A_set_40 rfl rfl rfl
theorem f_A_set_41 : am_cd k_A_set 41 = some ((some .int), .getfield 19, (10, 1, 281, 0, 3, .null)) := rfl
theorem s_A_set_41 {ls : am_L} {st : List Value} {σ : am_H} {Q : Option Value → am_H → Prop} {a : Nat} : ax k_A_set 41 ls (.ref a :: st) σ Q = ax_f (am_fld σ a 10 1) (fun v => ax k_A_set 44 ls (v :: st) σ Q) := ru_getf f_A_set_41 rfl
theorem f_A_set_44 : am_cd k_A_set 44 = some ((some .int), .aload_n 0, (0, 0, 0, 0, 0, .null)) := rfl
theorem s_A_set_44 {a1 a2 : Option Value} {st : List Value} {σ : am_H} {Q : Option Value → am_H → Prop} {x : Nat} : ax k_A_set 44 [some (.ref x), a1, a2] st σ Q = ax k_A_set 45 [some (.ref x), a1, a2] (.ref x :: st) σ Q := ru_loc (q := (_, _)) f_A_set_44 rfl rfl rfl
theorem f_A_set_45 : am_cd k_A_set 45 = some ((some .int), .getfield 19, (10, 1, 281, 0, 3, .null)) := rfl
theorem s_A_set_45 {ls : am_L} {st : List Value} {σ : am_H} {Q : Option Value → am_H → Prop} {a : Nat} : ax k_A_set 45 ls (.ref a :: st) σ Q = ax_f (am_fld σ a 10 1) (fun v => ax k_A_set 48 ls (v :: st) σ Q) := ru_getf f_A_set_45 rfl
theorem f_A_set_48 : am_cd k_A_set 48 = some ((some .int), .iload_n 1, (0, 0, 0, 0, 0, .null)) := rfl
theorem s_A_set_48 {a0 a2 : Option Value} {st : List Value} {σ : am_H} {Q : Option Value → am_H → Prop} {x : Int32} : ax k_A_set 48 [a0, some (.int x), a2] st σ Q = ax k_A_set 49 [a0, some (.int x), a2] (.int x :: st) σ Q := ru_loc (q := (_, _)) f_A_set_48 rfl rfl rfl
theorem f_A_set_49 : am_cd k_A_set 49 = some ((some .int), .invokevirtual 140, (6, 1, 489, 0, 0, .null)) := rfl
theorem s_A_set_49 {ls : am_L} {st : List Value} {σ : am_H} {Q : Option Value → am_H → Prop} {p0 : Int32} {b : Nat} (hi : am_is σ b 0) (h8 : am_s8 st) : ax k_A_set 49 ls (.int p0 :: .ref b :: st) σ Q = ax k_Album_setOf 0 [some (.ref b), some (.int p0), none, none, none, none, none] [] σ (ax_k k_A_set 52 ls st Q) := ru_vir (M' := rk_Album_setOf) f_A_set_49 rfl rfl rfl rfl hi h8 rfl rfl rfl rfl rfl
theorem f_A_set_52 : am_cd k_A_set 52 = some ((some .int), .invokevirtual 144, (7, 1, 495, 0, 0, .null)) := rfl
theorem s_A_set_52 {ls : am_L} {st : List Value} {σ : am_H} {Q : Option Value → am_H → Prop} {p0 : Int64} {b : Nat} (hi : am_is σ b 0) (h8 : am_s8 st) : ax k_A_set 52 ls (.long p0 :: .ref b :: st) σ Q = ax k_Album_firstOf 0 [some (.ref b), some (.long p0), none, none, none] [] σ (ax_k k_A_set 55 ls st Q) := ru_vir (M' := rk_Album_firstOf) f_A_set_52 rfl rfl rfl rfl hi h8 rfl rfl rfl rfl rfl
theorem f_A_set_55 : am_cd k_A_set 55 = some ((some .int), .ireturn, (0, 0, 0, 0, 0, .null)) := rfl
theorem s_A_set_55 {ls : am_L} {σ : am_H} {Q : Option Value → am_H → Prop} {v : Int32} : ax k_A_set 55 ls [.int v] σ Q = Q (some (.int v)) σ := ru_iretI f_A_set_55
theorem f_A_set_56 : am_cd k_A_set 56 = some ((some .int), .aload_n 0, (0, 0, 0, 0, 0, .null)) := rfl
theorem s_A_set_56 {a1 a2 : Option Value} {st : List Value} {σ : am_H} {Q : Option Value → am_H → Prop} {x : Nat} : ax k_A_set 56 [some (.ref x), a1, a2] st σ Q = ax k_A_set 57 [some (.ref x), a1, a2] (.ref x :: st) σ Q := ru_loc (q := (_, _)) f_A_set_56 rfl rfl rfl
theorem f_A_set_57 : am_cd k_A_set 57 = some ((some .int), .getfield 19, (10, 1, 281, 0, 3, .null)) := rfl
theorem s_A_set_57 {ls : am_L} {st : List Value} {σ : am_H} {Q : Option Value → am_H → Prop} {a : Nat} : ax k_A_set 57 ls (.ref a :: st) σ Q = ax_f (am_fld σ a 10 1) (fun v => ax k_A_set 60 ls (v :: st) σ Q) := ru_getf f_A_set_57 rfl
theorem f_A_set_60 : am_cd k_A_set 60 = some ((some .int), .iload_n 1, (0, 0, 0, 0, 0, .null)) := rfl
theorem s_A_set_60 {a0 a2 : Option Value} {st : List Value} {σ : am_H} {Q : Option Value → am_H → Prop} {x : Int32} : ax k_A_set 60 [a0, some (.int x), a2] st σ Q = ax k_A_set 61 [a0, some (.int x), a2] (.int x :: st) σ Q := ru_loc (q := (_, _)) f_A_set_60 rfl rfl rfl
theorem f_A_set_61 : am_cd k_A_set 61 = some ((some .int), .invokevirtual 140, (6, 1, 489, 0, 0, .null)) := rfl
theorem s_A_set_61 {ls : am_L} {st : List Value} {σ : am_H} {Q : Option Value → am_H → Prop} {p0 : Int32} {b : Nat} (hi : am_is σ b 0) (h8 : am_s8 st) : ax k_A_set 61 ls (.int p0 :: .ref b :: st) σ Q = ax k_Album_setOf 0 [some (.ref b), some (.int p0), none, none, none, none, none] [] σ (ax_k k_A_set 64 ls st Q) := ru_vir (M' := rk_Album_setOf) f_A_set_61 rfl rfl rfl rfl hi h8 rfl rfl rfl rfl rfl
theorem f_A_set_64 : am_cd k_A_set 64 = some ((some .int), .invokestatic 128, (173, 1, 462, 0, 12, .null)) := rfl
theorem s_A_set_64 {ls : am_L} {st : List Value} {σ : am_H} {Q : Option Value → am_H → Prop} {p0 : Int64} (h8 : am_s8 st) : ax k_A_set 64 ls (.long p0 :: st) σ Q = ax k_Long_bitCount 0 [some (.long p0), none] [] σ (ax_k k_A_set 67 ls st Q) := ru_sta (M' := rk_Long_bitCount) f_A_set_64 rfl (by decide) rfl (by simp) rfl h8 rfl rfl rfl rfl rfl
theorem f_A_set_67 : am_cd k_A_set 67 = some ((some .int), .ireturn, (0, 0, 0, 0, 0, .null)) := rfl
theorem s_A_set_67 {ls : am_L} {σ : am_H} {Q : Option Value → am_H → Prop} {v : Int32} : ax k_A_set 67 ls [.int v] σ Q = Q (some (.int v)) σ := ru_iretI f_A_set_67
theorem f_A_set_68 : am_cd k_A_set 68 = some ((some .int), .iconst (-1), (0, 0, 0, 0, 0, .null)) := rfl
theorem s_A_set_68 {ls : am_L} {st : List Value} {σ : am_H} {Q : Option Value → am_H → Prop} : ax k_A_set 68 ls st σ Q = ax k_A_set 69 ls (.int (-1) :: st) σ Q := ru_iconst f_A_set_68 (by decide +kernel) rfl
theorem f_A_set_69 : am_cd k_A_set 69 = some ((some .int), .ireturn, (0, 0, 0, 0, 0, .null)) := rfl
theorem s_A_set_69 {ls : am_L} {σ : am_H} {Q : Option Value → am_H → Prop} {v : Int32} : ax k_A_set 69 ls [.int v] σ Q = Q (some (.int v)) σ := ru_iretI f_A_set_69
theorem f_A_leave_0 : am_cd k_A_leave 0 = some ((some .boolean), .iload_n 1, (0, 0, 0, 0, 0, .null)) := rfl
theorem s_A_leave_0 {a0 a2 : Option Value} {st : List Value} {σ : am_H} {Q : Option Value → am_H → Prop} {x : Int32} : ax k_A_leave 0 [a0, some (.int x), a2] st σ Q = ax k_A_leave 1 [a0, some (.int x), a2] (.int x :: st) σ Q := ru_loc (q := (_, _)) f_A_leave_0 rfl rfl rfl
theorem f_A_leave_1 : am_cd k_A_leave 1 = some ((some .boolean), .invokestatic 104, (100, 1, 401, 0, 10, .null)) := rfl
theorem s_A_leave_1 {ls : am_L} {st : List Value} {σ : am_H} {Q : Option Value → am_H → Prop} {p0 : Int32} (h8 : am_s8 st) : ax k_A_leave 1 ls (.int p0 :: st) σ Q = ax k_A_isPerson 0 [some (.int p0)] [] σ (ax_k k_A_leave 4 ls st Q) := ru_sta (M' := rk_A_isPerson) f_A_leave_1 rfl (by decide) rfl (by simp) rfl h8 rfl rfl rfl rfl rfl
theorem f_A_leave_4 : am_cd k_A_leave 4 = some ((some .boolean), .ifCond .eq 31, (35, 0, 0, 0, 0, .null)) := rfl
theorem s_A_leave_4 {ls : am_L} {st : List Value} {σ : am_H} {Q : Option Value → am_H → Prop} {x : Int32} : ax k_A_leave 4 ls (.int x :: st) σ Q = (if x = 0 then ax k_A_leave 35 ls st σ Q else ax k_A_leave 7 ls st σ Q) := (ru_if f_A_leave_4 rfl).trans (ru_i_eq _ _ _ _)
theorem f_A_leave_7 : am_cd k_A_leave 7 = some ((some .boolean), .aload_n 0, (0, 0, 0, 0, 0, .null)) := rfl
theorem s_A_leave_7 {a1 a2 : Option Value} {st : List Value} {σ : am_H} {Q : Option Value → am_H → Prop} {x : Nat} : ax k_A_leave 7 [some (.ref x), a1, a2] st σ Q = ax k_A_leave 8 [some (.ref x), a1, a2] (.ref x :: st) σ Q := ru_loc (q := (_, _)) f_A_leave_7 rfl rfl rfl
theorem f_A_leave_8 : am_cd k_A_leave 8 = some ((some .boolean), .getfield 35, (10, 3, 283, 0, 3, .null)) := rfl
theorem s_A_leave_8 {ls : am_L} {st : List Value} {σ : am_H} {Q : Option Value → am_H → Prop} {a : Nat} : ax k_A_leave 8 ls (.ref a :: st) σ Q = ax_f (am_fld σ a 10 3) (fun v => ax k_A_leave 11 ls (v :: st) σ Q) := ru_getf f_A_leave_8 rfl
theorem f_A_leave_11 : am_cd k_A_leave 11 = some ((some .boolean), .aload_n 0, (0, 0, 0, 0, 0, .null)) := rfl
theorem s_A_leave_11 {a1 a2 : Option Value} {st : List Value} {σ : am_H} {Q : Option Value → am_H → Prop} {x : Nat} : ax k_A_leave 11 [some (.ref x), a1, a2] st σ Q = ax k_A_leave 12 [some (.ref x), a1, a2] (.ref x :: st) σ Q := ru_loc (q := (_, _)) f_A_leave_11 rfl rfl rfl
theorem f_A_leave_12 : am_cd k_A_leave 12 = some ((some .boolean), .getfield 82, (10, 11, 291, 0, 0, .null)) := rfl
theorem s_A_leave_12 {ls : am_L} {st : List Value} {σ : am_H} {Q : Option Value → am_H → Prop} {a : Nat} : ax k_A_leave 12 ls (.ref a :: st) σ Q = ax_f (am_fld σ a 10 11) (fun v => ax k_A_leave 15 ls (v :: st) σ Q) := ru_getf f_A_leave_12 rfl
theorem f_A_leave_15 : am_cd k_A_leave 15 = some ((some .boolean), .iload_n 1, (0, 0, 0, 0, 0, .null)) := rfl
theorem s_A_leave_15 {a0 a2 : Option Value} {st : List Value} {σ : am_H} {Q : Option Value → am_H → Prop} {x : Int32} : ax k_A_leave 15 [a0, some (.int x), a2] st σ Q = ax k_A_leave 16 [a0, some (.int x), a2] (.int x :: st) σ Q := ru_loc (q := (_, _)) f_A_leave_15 rfl rfl rfl
theorem f_A_leave_16 : am_cd k_A_leave 16 = some ((some .boolean), .iload_n 2, (0, 0, 0, 0, 0, .null)) := rfl
theorem s_A_leave_16 {a0 a1 : Option Value} {st : List Value} {σ : am_H} {Q : Option Value → am_H → Prop} {x : Int32} : ax k_A_leave 16 [a0, a1, some (.int x)] st σ Q = ax k_A_leave 17 [a0, a1, some (.int x)] (.int x :: st) σ Q := ru_loc (q := (_, _)) f_A_leave_16 rfl rfl rfl
theorem f_A_leave_17 : am_cd k_A_leave 17 = some ((some .boolean), .ifCond .eq 7, (24, 0, 0, 0, 0, .null)) := rfl
theorem s_A_leave_17 {ls : am_L} {st : List Value} {σ : am_H} {Q : Option Value → am_H → Prop} {x : Int32} : ax k_A_leave 17 ls (.int x :: st) σ Q = (if x = 0 then ax k_A_leave 24 ls st σ Q else ax k_A_leave 20 ls st σ Q) := (ru_if f_A_leave_17 rfl).trans (ru_i_eq _ _ _ _)
theorem f_A_leave_20 : am_cd k_A_leave 20 = some ((some .boolean), .iconst 1, (0, 0, 0, 0, 0, .null)) := rfl
theorem s_A_leave_20 {ls : am_L} {st : List Value} {σ : am_H} {Q : Option Value → am_H → Prop} : ax k_A_leave 20 ls st σ Q = ax k_A_leave 21 ls (.int 1 :: st) σ Q := ru_iconst f_A_leave_20 (by decide +kernel) rfl
theorem f_A_leave_21 : am_cd k_A_leave 21 = some ((some .boolean), .goto 4, (25, 0, 0, 0, 0, .null)) := rfl
theorem s_A_leave_21 {ls : am_L} {st : List Value} {σ : am_H} {Q : Option Value → am_H → Prop} : ax k_A_leave 21 ls st σ Q = ax k_A_leave 25 ls st σ Q := ru_goto f_A_leave_21
theorem f_A_leave_24 : am_cd k_A_leave 24 = some ((some .boolean), .iconst 0, (0, 0, 0, 0, 0, .null)) := rfl
theorem s_A_leave_24 {ls : am_L} {st : List Value} {σ : am_H} {Q : Option Value → am_H → Prop} : ax k_A_leave 24 ls st σ Q = ax k_A_leave 25 ls (.int 0 :: st) σ Q := ru_iconst f_A_leave_24 (by decide +kernel) rfl
theorem f_A_leave_25 : am_cd k_A_leave 25 = some ((some .boolean), .invokevirtual 147, (24, 3, 503, 0, 3, .null)) := rfl
theorem s_A_leave_25 {ls : am_L} {st : List Value} {σ : am_H} {Q : Option Value → am_H → Prop} {p0 : Int32} {p1 : Int32} {p2 : Int32} {b : Nat} (hi : am_is σ b 3) (h8 : am_s8 st) : ax k_A_leave 25 ls (.int p2 :: .int p1 :: .int p0 :: .ref b :: st) σ Q = ax k_Log_tell 0 [some (.ref b), some (.int p0), some (.int p1), some (.int p2)] [] σ (ax_k k_A_leave 28 ls st Q) := ru_vir (M' := rk_Log_tell) f_A_leave_25 rfl rfl rfl rfl hi h8 rfl rfl rfl rfl rfl
theorem f_A_leave_28 : am_cd k_A_leave 28 = some ((some .boolean), .ifCond .eq 7, (35, 0, 0, 0, 0, .null)) := rfl
theorem s_A_leave_28 {ls : am_L} {st : List Value} {σ : am_H} {Q : Option Value → am_H → Prop} {x : Int32} : ax k_A_leave 28 ls (.int x :: st) σ Q = (if x = 0 then ax k_A_leave 35 ls st σ Q else ax k_A_leave 31 ls st σ Q) := (ru_if f_A_leave_28 rfl).trans (ru_i_eq _ _ _ _)
theorem f_A_leave_31 : am_cd k_A_leave 31 = some ((some .boolean), .iconst 1, (0, 0, 0, 0, 0, .null)) := rfl
theorem s_A_leave_31 {ls : am_L} {st : List Value} {σ : am_H} {Q : Option Value → am_H → Prop} : ax k_A_leave 31 ls st σ Q = ax k_A_leave 32 ls (.int 1 :: st) σ Q := ru_iconst f_A_leave_31 (by decide +kernel) rfl
theorem f_A_leave_32 : am_cd k_A_leave 32 = some ((some .boolean), .goto 4, (36, 0, 0, 0, 0, .null)) := rfl
theorem s_A_leave_32 {ls : am_L} {st : List Value} {σ : am_H} {Q : Option Value → am_H → Prop} : ax k_A_leave 32 ls st σ Q = ax k_A_leave 36 ls st σ Q := ru_goto f_A_leave_32
theorem f_A_leave_35 : am_cd k_A_leave 35 = some ((some .boolean), .iconst 0, (0, 0, 0, 0, 0, .null)) := rfl
theorem s_A_leave_35 {ls : am_L} {st : List Value} {σ : am_H} {Q : Option Value → am_H → Prop} : ax k_A_leave 35 ls st σ Q = ax k_A_leave 36 ls (.int 0 :: st) σ Q := ru_iconst f_A_leave_35 (by decide +kernel) rfl
theorem f_A_leave_36 : am_cd k_A_leave 36 = some ((some .boolean), .ireturn, (0, 0, 0, 0, 0, .null)) := rfl
theorem s_A_leave_36 {ls : am_L} {σ : am_H} {Q : Option Value → am_H → Prop} {v : Int32} : ax k_A_leave 36 ls ([.int v]) σ Q = (am_nar .boolean v = true ∧ Q (some (.int v)) σ) := ru_iret f_A_leave_36
theorem f_A_embargo_0 : am_cd k_A_embargo 0 = some ((some .boolean), .aload_n 0, (0, 0, 0, 0, 0, .null)) := rfl
theorem s_A_embargo_0 {a1 a2 : Option Value} {st : List Value} {σ : am_H} {Q : Option Value → am_H → Prop} {x : Nat} : ax k_A_embargo 0 [some (.ref x), a1, a2] st σ Q = ax k_A_embargo 1 [some (.ref x), a1, a2] (.ref x :: st) σ Q := ru_loc (q := (_, _)) f_A_embargo_0 rfl rfl rfl
theorem f_A_embargo_1 : am_cd k_A_embargo 1 = some ((some .boolean), .getfield 19, (10, 1, 281, 0, 3, .null)) := rfl
theorem s_A_embargo_1 {ls : am_L} {st : List Value} {σ : am_H} {Q : Option Value → am_H → Prop} {a : Nat} : ax k_A_embargo 1 ls (.ref a :: st) σ Q = ax_f (am_fld σ a 10 1) (fun v => ax k_A_embargo 4 ls (v :: st) σ Q) := ru_getf f_A_embargo_1 rfl
theorem f_A_embargo_4 : am_cd k_A_embargo 4 = some ((some .boolean), .iload_n 1, (0, 0, 0, 0, 0, .null)) := rfl
theorem s_A_embargo_4 {a0 a2 : Option Value} {st : List Value} {σ : am_H} {Q : Option Value → am_H → Prop} {x : Int32} : ax k_A_embargo 4 [a0, some (.int x), a2] st σ Q = ax k_A_embargo 5 [a0, some (.int x), a2] (.int x :: st) σ Q := ru_loc (q := (_, _)) f_A_embargo_4 rfl rfl rfl
theorem f_A_embargo_5 : am_cd k_A_embargo 5 = some ((some .boolean), .invokevirtual 110, (1, 1, 419, 0, 0, .null)) := rfl
theorem s_A_embargo_5 {ls : am_L} {st : List Value} {σ : am_H} {Q : Option Value → am_H → Prop} {p0 : Int32} {b : Nat} (hi : am_is σ b 0) (h8 : am_s8 st) : ax k_A_embargo 5 ls (.int p0 :: .ref b :: st) σ Q = ax k_Album_isPicture 0 [some (.ref b), some (.int p0)] [] σ (ax_k k_A_embargo 8 ls st Q) := ru_vir (M' := rk_Album_isPicture) f_A_embargo_5 rfl rfl rfl rfl hi h8 rfl rfl rfl rfl rfl
theorem f_A_embargo_8 : am_cd k_A_embargo 8 = some ((some .boolean), .ifCond .eq 30, (38, 0, 0, 0, 0, .null)) := rfl
theorem s_A_embargo_8 {ls : am_L} {st : List Value} {σ : am_H} {Q : Option Value → am_H → Prop} {x : Int32} : ax k_A_embargo 8 ls (.int x :: st) σ Q = (if x = 0 then ax k_A_embargo 38 ls st σ Q else ax k_A_embargo 11 ls st σ Q) := (ru_if f_A_embargo_8 rfl).trans (ru_i_eq _ _ _ _)
theorem f_A_embargo_11 : am_cd k_A_embargo 11 = some ((some .boolean), .iload_n 2, (0, 0, 0, 0, 0, .null)) := rfl
theorem s_A_embargo_11 {a0 a1 : Option Value} {st : List Value} {σ : am_H} {Q : Option Value → am_H → Prop} {x : Int32} : ax k_A_embargo 11 [a0, a1, some (.int x)] st σ Q = ax k_A_embargo 12 [a0, a1, some (.int x)] (.int x :: st) σ Q := ru_loc (q := (_, _)) f_A_embargo_11 rfl rfl rfl
theorem f_A_embargo_12 : am_cd k_A_embargo 12 = some ((some .boolean), .invokestatic 85, (99, 1, 321, 0, 10, .null)) := rfl
theorem s_A_embargo_12 {ls : am_L} {st : List Value} {σ : am_H} {Q : Option Value → am_H → Prop} {p0 : Int32} (h8 : am_s8 st) : ax k_A_embargo 12 ls (.int p0 :: st) σ Q = ax k_A_isMinute 0 [some (.int p0)] [] σ (ax_k k_A_embargo 15 ls st Q) := ru_sta (M' := rk_A_isMinute) f_A_embargo_12 rfl (by decide) rfl (by simp) rfl h8 rfl rfl rfl rfl rfl
theorem f_A_embargo_15 : am_cd k_A_embargo 15 = some ((some .boolean), .ifCond .eq 23, (38, 0, 0, 0, 0, .null)) := rfl
theorem s_A_embargo_15 {ls : am_L} {st : List Value} {σ : am_H} {Q : Option Value → am_H → Prop} {x : Int32} : ax k_A_embargo 15 ls (.int x :: st) σ Q = (if x = 0 then ax k_A_embargo 38 ls st σ Q else ax k_A_embargo 18 ls st σ Q) := (ru_if f_A_embargo_15 rfl).trans (ru_i_eq _ _ _ _)
theorem f_A_embargo_18 : am_cd k_A_embargo 18 = some ((some .boolean), .aload_n 0, (0, 0, 0, 0, 0, .null)) := rfl
theorem s_A_embargo_18 {a1 a2 : Option Value} {st : List Value} {σ : am_H} {Q : Option Value → am_H → Prop} {x : Nat} : ax k_A_embargo 18 [some (.ref x), a1, a2] st σ Q = ax k_A_embargo 19 [some (.ref x), a1, a2] (.ref x :: st) σ Q := ru_loc (q := (_, _)) f_A_embargo_18 rfl rfl rfl
theorem f_A_embargo_19 : am_cd k_A_embargo 19 = some ((some .boolean), .getfield 39, (10, 4, 284, 0, 3, .null)) := rfl
theorem s_A_embargo_19 {ls : am_L} {st : List Value} {σ : am_H} {Q : Option Value → am_H → Prop} {a : Nat} : ax k_A_embargo 19 ls (.ref a :: st) σ Q = ax_f (am_fld σ a 10 4) (fun v => ax k_A_embargo 22 ls (v :: st) σ Q) := ru_getf f_A_embargo_19 rfl
theorem f_A_embargo_22 : am_cd k_A_embargo 22 = some ((some .boolean), .aload_n 0, (0, 0, 0, 0, 0, .null)) := rfl
theorem s_A_embargo_22 {a1 a2 : Option Value} {st : List Value} {σ : am_H} {Q : Option Value → am_H → Prop} {x : Nat} : ax k_A_embargo 22 [some (.ref x), a1, a2] st σ Q = ax k_A_embargo 23 [some (.ref x), a1, a2] (.ref x :: st) σ Q := ru_loc (q := (_, _)) f_A_embargo_22 rfl rfl rfl
theorem f_A_embargo_23 : am_cd k_A_embargo 23 = some ((some .boolean), .getfield 82, (10, 11, 291, 0, 0, .null)) := rfl
theorem s_A_embargo_23 {ls : am_L} {st : List Value} {σ : am_H} {Q : Option Value → am_H → Prop} {a : Nat} : ax k_A_embargo 23 ls (.ref a :: st) σ Q = ax_f (am_fld σ a 10 11) (fun v => ax k_A_embargo 26 ls (v :: st) σ Q) := ru_getf f_A_embargo_23 rfl
theorem f_A_embargo_26 : am_cd k_A_embargo 26 = some ((some .boolean), .iload_n 1, (0, 0, 0, 0, 0, .null)) := rfl
theorem s_A_embargo_26 {a0 a2 : Option Value} {st : List Value} {σ : am_H} {Q : Option Value → am_H → Prop} {x : Int32} : ax k_A_embargo 26 [a0, some (.int x), a2] st σ Q = ax k_A_embargo 27 [a0, some (.int x), a2] (.int x :: st) σ Q := ru_loc (q := (_, _)) f_A_embargo_26 rfl rfl rfl
theorem f_A_embargo_27 : am_cd k_A_embargo 27 = some ((some .boolean), .iload_n 2, (0, 0, 0, 0, 0, .null)) := rfl
theorem s_A_embargo_27 {a0 a1 : Option Value} {st : List Value} {σ : am_H} {Q : Option Value → am_H → Prop} {x : Int32} : ax k_A_embargo 27 [a0, a1, some (.int x)] st σ Q = ax k_A_embargo 28 [a0, a1, some (.int x)] (.int x :: st) σ Q := ru_loc (q := (_, _)) f_A_embargo_27 rfl rfl rfl
theorem f_A_embargo_28 : am_cd k_A_embargo 28 = some ((some .boolean), .invokevirtual 147, (24, 3, 503, 0, 3, .null)) := rfl
theorem s_A_embargo_28 {ls : am_L} {st : List Value} {σ : am_H} {Q : Option Value → am_H → Prop} {p0 : Int32} {p1 : Int32} {p2 : Int32} {b : Nat} (hi : am_is σ b 3) (h8 : am_s8 st) : ax k_A_embargo 28 ls (.int p2 :: .int p1 :: .int p0 :: .ref b :: st) σ Q = ax k_Log_tell 0 [some (.ref b), some (.int p0), some (.int p1), some (.int p2)] [] σ (ax_k k_A_embargo 31 ls st Q) := ru_vir (M' := rk_Log_tell) f_A_embargo_28 rfl rfl rfl rfl hi h8 rfl rfl rfl rfl rfl
theorem f_A_embargo_31 : am_cd k_A_embargo 31 = some ((some .boolean), .ifCond .eq 7, (38, 0, 0, 0, 0, .null)) := rfl
theorem s_A_embargo_31 {ls : am_L} {st : List Value} {σ : am_H} {Q : Option Value → am_H → Prop} {x : Int32} : ax k_A_embargo 31 ls (.int x :: st) σ Q = (if x = 0 then ax k_A_embargo 38 ls st σ Q else ax k_A_embargo 34 ls st σ Q) := (ru_if f_A_embargo_31 rfl).trans (ru_i_eq _ _ _ _)
theorem f_A_embargo_34 : am_cd k_A_embargo 34 = some ((some .boolean), .iconst 1, (0, 0, 0, 0, 0, .null)) := rfl
theorem s_A_embargo_34 {ls : am_L} {st : List Value} {σ : am_H} {Q : Option Value → am_H → Prop} : ax k_A_embargo 34 ls st σ Q = ax k_A_embargo 35 ls (.int 1 :: st) σ Q := ru_iconst f_A_embargo_34 (by decide +kernel) rfl
theorem f_A_embargo_35 : am_cd k_A_embargo 35 = some ((some .boolean), .goto 4, (39, 0, 0, 0, 0, .null)) := rfl
theorem s_A_embargo_35 {ls : am_L} {st : List Value} {σ : am_H} {Q : Option Value → am_H → Prop} : ax k_A_embargo 35 ls st σ Q = ax k_A_embargo 39 ls st σ Q := ru_goto f_A_embargo_35
theorem f_A_embargo_38 : am_cd k_A_embargo 38 = some ((some .boolean), .iconst 0, (0, 0, 0, 0, 0, .null)) := rfl
theorem s_A_embargo_38 {ls : am_L} {st : List Value} {σ : am_H} {Q : Option Value → am_H → Prop} : ax k_A_embargo 38 ls st σ Q = ax k_A_embargo 39 ls (.int 0 :: st) σ Q := ru_iconst f_A_embargo_38 (by decide +kernel) rfl
theorem f_A_embargo_39 : am_cd k_A_embargo 39 = some ((some .boolean), .ireturn, (0, 0, 0, 0, 0, .null)) := rfl
theorem s_A_embargo_39 {ls : am_L} {σ : am_H} {Q : Option Value → am_H → Prop} {v : Int32} : ax k_A_embargo 39 ls ([.int v]) σ Q = (am_nar .boolean v = true ∧ Q (some (.int v)) σ) := ru_iret f_A_embargo_39
theorem f_A_known_0 : am_cd k_A_known 0 = some ((some .int), .aload_n 0, (0, 0, 0, 0, 0, .null)) := rfl
theorem s_A_known_0 {a1 a2 a3 : Option Value} {st : List Value} {σ : am_H} {Q : Option Value → am_H → Prop} {x : Nat} : ax k_A_known 0 [some (.ref x), a1, a2, a3] st σ Q = ax k_A_known 1 [some (.ref x), a1, a2, a3] (.ref x :: st) σ Q := ru_loc (q := (_, _)) f_A_known_0 rfl rfl rfl
theorem f_A_known_1 : am_cd k_A_known 1 = some ((some .int), .iload_n 2, (0, 0, 0, 0, 0, .null)) := rfl
theorem s_A_known_1 {a0 a1 a3 : Option Value} {st : List Value} {σ : am_H} {Q : Option Value → am_H → Prop} {x : Int32} : ax k_A_known 1 [a0, a1, some (.int x), a3] st σ Q = ax k_A_known 2 [a0, a1, some (.int x), a3] (.int x :: st) σ Q := ru_loc (q := (_, _)) f_A_known_1 rfl rfl rfl
theorem f_A_known_2 : am_cd k_A_known 2 = some ((some .int), .invokevirtual 97, (105, 1, 384, 0, 10, .null)) := rfl
theorem s_A_known_2 {ls : am_L} {st : List Value} {σ : am_H} {Q : Option Value → am_H → Prop} {p0 : Int32} {b : Nat} (hi : am_is σ b 10) (h8 : am_s8 st) : ax k_A_known 2 ls (.int p0 :: .ref b :: st) σ Q = ax k_A_isPast 0 [some (.ref b), some (.int p0)] [] σ (ax_k k_A_known 5 ls st Q) := ru_vir (M' := rk_A_isPast) f_A_known_2 rfl rfl rfl rfl hi h8 rfl rfl rfl rfl rfl
theorem f_A_known_5 : am_cd k_A_known 5 = some ((some .int), .ifCond .ne 5, (10, 0, 0, 0, 0, .null)) := rfl
theorem s_A_known_5 {ls : am_L} {st : List Value} {σ : am_H} {Q : Option Value → am_H → Prop} {x : Int32} : ax k_A_known 5 ls (.int x :: st) σ Q = (if x = 0 then ax k_A_known 8 ls st σ Q else ax k_A_known 10 ls st σ Q) := (ru_if f_A_known_5 rfl).trans (ru_i_ne _ _ _ _)
theorem f_A_known_8 : am_cd k_A_known 8 = some ((some .int), .iconst (-1), (0, 0, 0, 0, 0, .null)) := rfl
theorem s_A_known_8 {ls : am_L} {st : List Value} {σ : am_H} {Q : Option Value → am_H → Prop} : ax k_A_known 8 ls st σ Q = ax k_A_known 9 ls (.int (-1) :: st) σ Q := ru_iconst f_A_known_8 (by decide +kernel) rfl
theorem f_A_known_9 : am_cd k_A_known 9 = some ((some .int), .ireturn, (0, 0, 0, 0, 0, .null)) := rfl
theorem s_A_known_9 {ls : am_L} {σ : am_H} {Q : Option Value → am_H → Prop} {v : Int32} : ax k_A_known 9 ls [.int v] σ Q = Q (some (.int v)) σ := ru_iretI f_A_known_9
theorem f_A_known_10 : am_cd k_A_known 10 = some ((some .int), .iload_n 3, (0, 0, 0, 0, 0, .null)) := rfl
theorem s_A_known_10 {a0 a1 a2 : Option Value} {st : List Value} {σ : am_H} {Q : Option Value → am_H → Prop} {x : Int32} : ax k_A_known 10 [a0, a1, a2, some (.int x)] st σ Q = ax k_A_known 11 [a0, a1, a2, some (.int x)] (.int x :: st) σ Q := ru_loc (q := (_, _)) f_A_known_10 rfl rfl rfl
theorem f_A_known_11 : am_cd k_A_known 11 = some ((some .int), .ifCond .eq 25, (36, 0, 0, 0, 0, .null)) := rfl
theorem s_A_known_11 {ls : am_L} {st : List Value} {σ : am_H} {Q : Option Value → am_H → Prop} {x : Int32} : ax k_A_known 11 ls (.int x :: st) σ Q = (if x = 0 then ax k_A_known 36 ls st σ Q else ax k_A_known 14 ls st σ Q) := (ru_if f_A_known_11 rfl).trans (ru_i_eq _ _ _ _)
theorem f_A_known_14 : am_cd k_A_known 14 = some ((some .int), .iload_n 1, (0, 0, 0, 0, 0, .null)) := rfl
theorem s_A_known_14 {a0 a2 a3 : Option Value} {st : List Value} {σ : am_H} {Q : Option Value → am_H → Prop} {x : Int32} : ax k_A_known 14 [a0, some (.int x), a2, a3] st σ Q = ax k_A_known 15 [a0, some (.int x), a2, a3] (.int x :: st) σ Q := ru_loc (q := (_, _)) f_A_known_14 rfl rfl rfl
theorem f_A_known_15 : am_cd k_A_known 15 = some ((some .int), .invokestatic 104, (100, 1, 401, 0, 10, .null)) := rfl
theorem s_A_known_15 {ls : am_L} {st : List Value} {σ : am_H} {Q : Option Value → am_H → Prop} {p0 : Int32} (h8 : am_s8 st) : ax k_A_known 15 ls (.int p0 :: st) σ Q = ax k_A_isPerson 0 [some (.int p0)] [] σ (ax_k k_A_known 18 ls st Q) := ru_sta (M' := rk_A_isPerson) f_A_known_15 rfl (by decide) rfl (by simp) rfl h8 rfl rfl rfl rfl rfl
theorem f_A_known_18 : am_cd k_A_known 18 = some ((some .int), .ifCond .eq 16, (34, 0, 0, 0, 0, .null)) := rfl
theorem s_A_known_18 {ls : am_L} {st : List Value} {σ : am_H} {Q : Option Value → am_H → Prop} {x : Int32} : ax k_A_known 18 ls (.int x :: st) σ Q = (if x = 0 then ax k_A_known 34 ls st σ Q else ax k_A_known 21 ls st σ Q) := (ru_if f_A_known_18 rfl).trans (ru_i_eq _ _ _ _)
theorem f_A_known_21 : am_cd k_A_known 21 = some ((some .int), .aload_n 0, (0, 0, 0, 0, 0, .null)) := rfl
theorem s_A_known_21 {a1 a2 a3 : Option Value} {st : List Value} {σ : am_H} {Q : Option Value → am_H → Prop} {x : Nat} : ax k_A_known 21 [some (.ref x), a1, a2, a3] st σ Q = ax k_A_known 22 [some (.ref x), a1, a2, a3] (.ref x :: st) σ Q := ru_loc (q := (_, _)) f_A_known_21 rfl rfl rfl
theorem f_A_known_22 : am_cd k_A_known 22 = some ((some .int), .getfield 35, (10, 3, 283, 0, 3, .null)) := rfl
theorem s_A_known_22 {ls : am_L} {st : List Value} {σ : am_H} {Q : Option Value → am_H → Prop} {a : Nat} : ax k_A_known 22 ls (.ref a :: st) σ Q = ax_f (am_fld σ a 10 3) (fun v => ax k_A_known 25 ls (v :: st) σ Q) := ru_getf f_A_known_22 rfl
theorem f_A_known_25 : am_cd k_A_known 25 = some ((some .int), .iload_n 1, (0, 0, 0, 0, 0, .null)) := rfl
theorem s_A_known_25 {a0 a2 a3 : Option Value} {st : List Value} {σ : am_H} {Q : Option Value → am_H → Prop} {x : Int32} : ax k_A_known 25 [a0, some (.int x), a2, a3] st σ Q = ax k_A_known 26 [a0, some (.int x), a2, a3] (.int x :: st) σ Q := ru_loc (q := (_, _)) f_A_known_25 rfl rfl rfl
theorem f_A_known_26 : am_cd k_A_known 26 = some ((some .int), .iload_n 2, (0, 0, 0, 0, 0, .null)) := rfl
theorem s_A_known_26 {a0 a1 a3 : Option Value} {st : List Value} {σ : am_H} {Q : Option Value → am_H → Prop} {x : Int32} : ax k_A_known 26 [a0, a1, some (.int x), a3] st σ Q = ax k_A_known 27 [a0, a1, some (.int x), a3] (.int x :: st) σ Q := ru_loc (q := (_, _)) f_A_known_26 rfl rfl rfl
theorem f_A_known_27 : am_cd k_A_known 27 = some ((some .int), .iconst 1, (0, 0, 0, 0, 0, .null)) := rfl
theorem s_A_known_27 {ls : am_L} {st : List Value} {σ : am_H} {Q : Option Value → am_H → Prop} : ax k_A_known 27 ls st σ Q = ax k_A_known 28 ls (.int 1 :: st) σ Q := ru_iconst f_A_known_27 (by decide +kernel) rfl
theorem f_A_known_28 : am_cd k_A_known 28 = some ((some .int), .invokevirtual 150, (25, 3, 512, 0, 3, .null)) := rfl
theorem s_A_known_28 {ls : am_L} {st : List Value} {σ : am_H} {Q : Option Value → am_H → Prop} {p0 : Int32} {p1 : Int32} {p2 : Int32} {b : Nat} (hi : am_is σ b 3) (h8 : am_s8 st) : ax k_A_known 28 ls (.int p2 :: .int p1 :: .int p0 :: .ref b :: st) σ Q = ax k_Log_latest 0 [some (.ref b), some (.int p0), some (.int p1), some (.int p2), none] [] σ (ax_k k_A_known 31 ls st Q) := ru_vir (M' := rk_Log_latest) f_A_known_28 rfl rfl rfl rfl hi h8 rfl rfl rfl rfl rfl
theorem f_A_known_31 : am_cd k_A_known 31 = some ((some .int), .goto 4, (35, 0, 0, 0, 0, .null)) := rfl
theorem s_A_known_31 {ls : am_L} {st : List Value} {σ : am_H} {Q : Option Value → am_H → Prop} : ax k_A_known 31 ls st σ Q = ax k_A_known 35 ls st σ Q := ru_goto f_A_known_31
theorem f_A_known_34 : am_cd k_A_known 34 = some ((some .int), .iconst (-1), (0, 0, 0, 0, 0, .null)) := rfl
theorem s_A_known_34 {ls : am_L} {st : List Value} {σ : am_H} {Q : Option Value → am_H → Prop} : ax k_A_known 34 ls st σ Q = ax k_A_known 35 ls (.int (-1) :: st) σ Q := ru_iconst f_A_known_34 (by decide +kernel) rfl
theorem f_A_known_35 : am_cd k_A_known 35 = some ((some .int), .ireturn, (0, 0, 0, 0, 0, .null)) := rfl
theorem s_A_known_35 {ls : am_L} {σ : am_H} {Q : Option Value → am_H → Prop} {v : Int32} : ax k_A_known 35 ls [.int v] σ Q = Q (some (.int v)) σ := ru_iretI f_A_known_35
theorem f_A_known_36 : am_cd k_A_known 36 = some ((some .int), .aload_n 0, (0, 0, 0, 0, 0, .null)) := rfl
theorem s_A_known_36 {a1 a2 a3 : Option Value} {st : List Value} {σ : am_H} {Q : Option Value → am_H → Prop} {x : Nat} : ax k_A_known 36 [some (.ref x), a1, a2, a3] st σ Q = ax k_A_known 37 [some (.ref x), a1, a2, a3] (.ref x :: st) σ Q := ru_loc (q := (_, _)) f_A_known_36 rfl rfl rfl
theorem f_A_known_37 : am_cd k_A_known 37 = some ((some .int), .getfield 19, (10, 1, 281, 0, 3, .null)) := rfl
theorem s_A_known_37 {ls : am_L} {st : List Value} {σ : am_H} {Q : Option Value → am_H → Prop} {a : Nat} : ax k_A_known 37 ls (.ref a :: st) σ Q = ax_f (am_fld σ a 10 1) (fun v => ax k_A_known 40 ls (v :: st) σ Q) := ru_getf f_A_known_37 rfl
theorem f_A_known_40 : am_cd k_A_known 40 = some ((some .int), .iload_n 1, (0, 0, 0, 0, 0, .null)) := rfl
theorem s_A_known_40 {a0 a2 a3 : Option Value} {st : List Value} {σ : am_H} {Q : Option Value → am_H → Prop} {x : Int32} : ax k_A_known 40 [a0, some (.int x), a2, a3] st σ Q = ax k_A_known 41 [a0, some (.int x), a2, a3] (.int x :: st) σ Q := ru_loc (q := (_, _)) f_A_known_40 rfl rfl rfl
theorem f_A_known_41 : am_cd k_A_known 41 = some ((some .int), .invokevirtual 110, (1, 1, 419, 0, 0, .null)) := rfl
theorem s_A_known_41 {ls : am_L} {st : List Value} {σ : am_H} {Q : Option Value → am_H → Prop} {p0 : Int32} {b : Nat} (hi : am_is σ b 0) (h8 : am_s8 st) : ax k_A_known 41 ls (.int p0 :: .ref b :: st) σ Q = ax k_Album_isPicture 0 [some (.ref b), some (.int p0)] [] σ (ax_k k_A_known 44 ls st Q) := ru_vir (M' := rk_Album_isPicture) f_A_known_41 rfl rfl rfl rfl hi h8 rfl rfl rfl rfl rfl
theorem f_A_known_44 : am_cd k_A_known 44 = some ((some .int), .ifCond .eq 16, (60, 0, 0, 0, 0, .null)) := rfl
theorem s_A_known_44 {ls : am_L} {st : List Value} {σ : am_H} {Q : Option Value → am_H → Prop} {x : Int32} : ax k_A_known 44 ls (.int x :: st) σ Q = (if x = 0 then ax k_A_known 60 ls st σ Q else ax k_A_known 47 ls st σ Q) := (ru_if f_A_known_44 rfl).trans (ru_i_eq _ _ _ _)
theorem f_A_known_47 : am_cd k_A_known 47 = some ((some .int), .aload_n 0, (0, 0, 0, 0, 0, .null)) := rfl
theorem s_A_known_47 {a1 a2 a3 : Option Value} {st : List Value} {σ : am_H} {Q : Option Value → am_H → Prop} {x : Nat} : ax k_A_known 47 [some (.ref x), a1, a2, a3] st σ Q = ax k_A_known 48 [some (.ref x), a1, a2, a3] (.ref x :: st) σ Q := ru_loc (q := (_, _)) f_A_known_47 rfl rfl rfl
theorem f_A_known_48 : am_cd k_A_known 48 = some ((some .int), .getfield 39, (10, 4, 284, 0, 3, .null)) := rfl
theorem s_A_known_48 {ls : am_L} {st : List Value} {σ : am_H} {Q : Option Value → am_H → Prop} {a : Nat} : ax k_A_known 48 ls (.ref a :: st) σ Q = ax_f (am_fld σ a 10 4) (fun v => ax k_A_known 51 ls (v :: st) σ Q) := ru_getf f_A_known_48 rfl
theorem f_A_known_51 : am_cd k_A_known 51 = some ((some .int), .iload_n 1, (0, 0, 0, 0, 0, .null)) := rfl
theorem s_A_known_51 {a0 a2 a3 : Option Value} {st : List Value} {σ : am_H} {Q : Option Value → am_H → Prop} {x : Int32} : ax k_A_known 51 [a0, some (.int x), a2, a3] st σ Q = ax k_A_known 52 [a0, some (.int x), a2, a3] (.int x :: st) σ Q := ru_loc (q := (_, _)) f_A_known_51 rfl rfl rfl
theorem f_A_known_52 : am_cd k_A_known 52 = some ((some .int), .iload_n 2, (0, 0, 0, 0, 0, .null)) := rfl
theorem s_A_known_52 {a0 a1 a3 : Option Value} {st : List Value} {σ : am_H} {Q : Option Value → am_H → Prop} {x : Int32} : ax k_A_known 52 [a0, a1, some (.int x), a3] st σ Q = ax k_A_known 53 [a0, a1, some (.int x), a3] (.int x :: st) σ Q := ru_loc (q := (_, _)) f_A_known_52 rfl rfl rfl
theorem f_A_known_53 : am_cd k_A_known 53 = some ((some .int), .iconst 0, (0, 0, 0, 0, 0, .null)) := rfl
theorem s_A_known_53 {ls : am_L} {st : List Value} {σ : am_H} {Q : Option Value → am_H → Prop} : ax k_A_known 53 ls st σ Q = ax k_A_known 54 ls (.int 0 :: st) σ Q := ru_iconst f_A_known_53 (by decide +kernel) rfl
theorem f_A_known_54 : am_cd k_A_known 54 = some ((some .int), .invokevirtual 150, (25, 3, 512, 0, 3, .null)) := rfl
theorem s_A_known_54 {ls : am_L} {st : List Value} {σ : am_H} {Q : Option Value → am_H → Prop} {p0 : Int32} {p1 : Int32} {p2 : Int32} {b : Nat} (hi : am_is σ b 3) (h8 : am_s8 st) : ax k_A_known 54 ls (.int p2 :: .int p1 :: .int p0 :: .ref b :: st) σ Q = ax k_Log_latest 0 [some (.ref b), some (.int p0), some (.int p1), some (.int p2), none] [] σ (ax_k k_A_known 57 ls st Q) := ru_vir (M' := rk_Log_latest) f_A_known_54 rfl rfl rfl rfl hi h8 rfl rfl rfl rfl rfl
theorem f_A_known_57 : am_cd k_A_known 57 = some ((some .int), .goto 4, (61, 0, 0, 0, 0, .null)) := rfl
theorem s_A_known_57 {ls : am_L} {st : List Value} {σ : am_H} {Q : Option Value → am_H → Prop} : ax k_A_known 57 ls st σ Q = ax k_A_known 61 ls st σ Q := ru_goto f_A_known_57
theorem f_A_known_60 : am_cd k_A_known 60 = some ((some .int), .iconst (-1), (0, 0, 0, 0, 0, .null)) := rfl
theorem s_A_known_60 {ls : am_L} {st : List Value} {σ : am_H} {Q : Option Value → am_H → Prop} : ax k_A_known 60 ls st σ Q = ax k_A_known 61 ls (.int (-1) :: st) σ Q := ru_iconst f_A_known_60 (by decide +kernel) rfl
theorem f_A_known_61 : am_cd k_A_known 61 = some ((some .int), .ireturn, (0, 0, 0, 0, 0, .null)) := rfl
theorem s_A_known_61 {ls : am_L} {σ : am_H} {Q : Option Value → am_H → Prop} {v : Int32} : ax k_A_known 61 ls [.int v] σ Q = Q (some (.int v)) σ := ru_iretI f_A_known_61
theorem f_A_feed_0 : am_cd k_A_feed 0 = some ((some .int), .aload_n 0, (0, 0, 0, 0, 0, .null)) := rfl
theorem s_A_feed_0 {a1 a2 a3 a4 a5 : Option Value} {st : List Value} {σ : am_H} {Q : Option Value → am_H → Prop} {x : Nat} : ax k_A_feed 0 [some (.ref x), a1, a2, a3, a4, a5] st σ Q = ax k_A_feed 1 [some (.ref x), a1, a2, a3, a4, a5] (.ref x :: st) σ Q := ru_loc (q := (_, _)) f_A_feed_0 rfl rfl rfl
theorem f_A_feed_1 : am_cd k_A_feed 1 = some ((some .int), .getfield 53, (10, 6, 286, 0, 3, .null)) := rfl
theorem s_A_feed_1 {ls : am_L} {st : List Value} {σ : am_H} {Q : Option Value → am_H → Prop} {a : Nat} : ax k_A_feed 1 ls (.ref a :: st) σ Q = ax_f (am_fld σ a 10 6) (fun v => ax k_A_feed 4 ls (v :: st) σ Q) := ru_getf f_A_feed_1 rfl
theorem f_A_feed_4 : am_cd k_A_feed 4 = some ((some .int), .getfield 154, (7, 1, 8, 1, 0, .null)) := rfl
theorem s_A_feed_4 {ls : am_L} {st : List Value} {σ : am_H} {Q : Option Value → am_H → Prop} {a : Nat} : ax k_A_feed 4 ls (.ref a :: st) σ Q = ax_f (am_fld σ a 7 1) (fun v => ax k_A_feed 7 ls (v :: st) σ Q) := ru_getf f_A_feed_4 rfl
theorem f_A_feed_7 : am_cd k_A_feed 7 = some ((some .int), .bipush 20, (0, 0, 0, 0, 0, .null)) := rfl
theorem s_A_feed_7 {ls : am_L} {st : List Value} {σ : am_H} {Q : Option Value → am_H → Prop} : ax k_A_feed 7 ls st σ Q = ax k_A_feed 9 ls (.int 20 :: st) σ Q := ru_bipush f_A_feed_7 (by decide +kernel) rfl
theorem f_A_feed_9 : am_cd k_A_feed 9 = some ((some .int), .iadd, (0, 0, 0, 0, 0, .null)) := rfl
theorem s_A_feed_9 {ls : am_L} {st : List Value} {σ : am_H} {Q : Option Value → am_H → Prop} {x y : Int32} : ax k_A_feed 9 ls (.int y :: .int x :: st) σ Q = ax k_A_feed 10 ls (.int (x + y) :: st) σ Q := ru_pure f_A_feed_9 rfl rfl
theorem f_A_feed_10 : am_cd k_A_feed 10 = some ((some .int), .bipush 120, (0, 0, 0, 0, 0, .null)) := rfl
theorem s_A_feed_10 {ls : am_L} {st : List Value} {σ : am_H} {Q : Option Value → am_H → Prop} : ax k_A_feed 10 ls st σ Q = ax k_A_feed 12 ls (.int 120 :: st) σ Q := ru_bipush f_A_feed_10 (by decide +kernel) rfl
theorem f_A_feed_12 : am_cd k_A_feed 12 = some ((some .int), .if_icmp .le 5, (17, 0, 0, 0, 0, .null)) := rfl
theorem s_A_feed_12 {ls : am_L} {st : List Value} {σ : am_H} {Q : Option Value → am_H → Prop} {x y : Int32} : ax k_A_feed 12 ls (.int y :: .int x :: st) σ Q = (if y < x then ax k_A_feed 15 ls st σ Q else ax k_A_feed 17 ls st σ Q) := (ru_icmp f_A_feed_12 rfl).trans (ru_i_le _ _ _ _)
theorem f_A_feed_15 : am_cd k_A_feed 15 = some ((some .int), .iconst (-1), (0, 0, 0, 0, 0, .null)) := rfl
theorem s_A_feed_15 {ls : am_L} {st : List Value} {σ : am_H} {Q : Option Value → am_H → Prop} : ax k_A_feed 15 ls st σ Q = ax k_A_feed 16 ls (.int (-1) :: st) σ Q := ru_iconst f_A_feed_15 (by decide +kernel) rfl
theorem f_A_feed_16 : am_cd k_A_feed 16 = some ((some .int), .ireturn, (0, 0, 0, 0, 0, .null)) := rfl
theorem s_A_feed_16 {ls : am_L} {σ : am_H} {Q : Option Value → am_H → Prop} {v : Int32} : ax k_A_feed 16 ls [.int v] σ Q = Q (some (.int v)) σ := ru_iretI f_A_feed_16
theorem f_A_feed_17 : am_cd k_A_feed 17 = some ((some .int), .aload_n 0, (0, 0, 0, 0, 0, .null)) := rfl
theorem s_A_feed_17 {a1 a2 a3 a4 a5 : Option Value} {st : List Value} {σ : am_H} {Q : Option Value → am_H → Prop} {x : Nat} : ax k_A_feed 17 [some (.ref x), a1, a2, a3, a4, a5] st σ Q = ax k_A_feed 18 [some (.ref x), a1, a2, a3, a4, a5] (.ref x :: st) σ Q := ru_loc (q := (_, _)) f_A_feed_17 rfl rfl rfl
theorem f_A_feed_18 : am_cd k_A_feed 18 = some ((some .int), .getfield 53, (10, 6, 286, 0, 3, .null)) := rfl
theorem s_A_feed_18 {ls : am_L} {st : List Value} {σ : am_H} {Q : Option Value → am_H → Prop} {a : Nat} : ax k_A_feed 18 ls (.ref a :: st) σ Q = ax_f (am_fld σ a 10 6) (fun v => ax k_A_feed 21 ls (v :: st) σ Q) := ru_getf f_A_feed_18 rfl
theorem f_A_feed_21 : am_cd k_A_feed 21 = some ((some .int), .iload_n 1, (0, 0, 0, 0, 0, .null)) := rfl
theorem s_A_feed_21 {a0 a2 a3 a4 a5 : Option Value} {st : List Value} {σ : am_H} {Q : Option Value → am_H → Prop} {x : Int32} : ax k_A_feed 21 [a0, some (.int x), a2, a3, a4, a5] st σ Q = ax k_A_feed 22 [a0, some (.int x), a2, a3, a4, a5] (.int x :: st) σ Q := ru_loc (q := (_, _)) f_A_feed_21 rfl rfl rfl
theorem f_A_feed_22 : am_cd k_A_feed 22 = some ((some .int), .invokevirtual 159, (55, 1, 517, 0, 7, .null)) := rfl
theorem s_A_feed_22 {ls : am_L} {st : List Value} {σ : am_H} {Q : Option Value → am_H → Prop} {p0 : Int32} {b : Nat} (hi : am_is σ b 7) (h8 : am_s8 st) : ax k_A_feed 22 ls (.int p0 :: .ref b :: st) σ Q = ax k_Tape_append 0 [some (.ref b), some (.int p0), none] [] σ (ax_k k_A_feed 25 ls st Q) := ru_vir (M' := rk_Tape_append) f_A_feed_22 rfl rfl rfl rfl hi h8 rfl rfl rfl rfl rfl
theorem f_A_feed_25 : am_cd k_A_feed 25 = some ((some .int), .aload_n 0, (0, 0, 0, 0, 0, .null)) := rfl
theorem s_A_feed_25 {a1 a2 a3 a4 a5 : Option Value} {st : List Value} {σ : am_H} {Q : Option Value → am_H → Prop} {x : Nat} : ax k_A_feed 25 [some (.ref x), a1, a2, a3, a4, a5] st σ Q = ax k_A_feed 26 [some (.ref x), a1, a2, a3, a4, a5] (.ref x :: st) σ Q := ru_loc (q := (_, _)) f_A_feed_25 rfl rfl rfl
theorem f_A_feed_26 : am_cd k_A_feed 26 = some ((some .int), .getfield 53, (10, 6, 286, 0, 3, .null)) := rfl
theorem s_A_feed_26 {ls : am_L} {st : List Value} {σ : am_H} {Q : Option Value → am_H → Prop} {a : Nat} : ax k_A_feed 26 ls (.ref a :: st) σ Q = ax_f (am_fld σ a 10 6) (fun v => ax k_A_feed 29 ls (v :: st) σ Q) := ru_getf f_A_feed_26 rfl
theorem f_A_feed_29 : am_cd k_A_feed 29 = some ((some .int), .iload_n 2, (0, 0, 0, 0, 0, .null)) := rfl
theorem s_A_feed_29 {a0 a1 a3 a4 a5 : Option Value} {st : List Value} {σ : am_H} {Q : Option Value → am_H → Prop} {x : Int32} : ax k_A_feed 29 [a0, a1, some (.int x), a3, a4, a5] st σ Q = ax k_A_feed 30 [a0, a1, some (.int x), a3, a4, a5] (.int x :: st) σ Q := ru_loc (q := (_, _)) f_A_feed_29 rfl rfl rfl
theorem f_A_feed_30 : am_cd k_A_feed 30 = some ((some .int), .invokevirtual 159, (55, 1, 517, 0, 7, .null)) := rfl
theorem s_A_feed_30 {ls : am_L} {st : List Value} {σ : am_H} {Q : Option Value → am_H → Prop} {p0 : Int32} {b : Nat} (hi : am_is σ b 7) (h8 : am_s8 st) : ax k_A_feed 30 ls (.int p0 :: .ref b :: st) σ Q = ax k_Tape_append 0 [some (.ref b), some (.int p0), none] [] σ (ax_k k_A_feed 33 ls st Q) := ru_vir (M' := rk_Tape_append) f_A_feed_30 rfl rfl rfl rfl hi h8 rfl rfl rfl rfl rfl
theorem f_A_feed_33 : am_cd k_A_feed 33 = some ((some .int), .aload_n 0, (0, 0, 0, 0, 0, .null)) := rfl
theorem s_A_feed_33 {a1 a2 a3 a4 a5 : Option Value} {st : List Value} {σ : am_H} {Q : Option Value → am_H → Prop} {x : Nat} : ax k_A_feed 33 [some (.ref x), a1, a2, a3, a4, a5] st σ Q = ax k_A_feed 34 [some (.ref x), a1, a2, a3, a4, a5] (.ref x :: st) σ Q := ru_loc (q := (_, _)) f_A_feed_33 rfl rfl rfl
theorem f_A_feed_34 : am_cd k_A_feed 34 = some ((some .int), .getfield 53, (10, 6, 286, 0, 3, .null)) := rfl
theorem s_A_feed_34 {ls : am_L} {st : List Value} {σ : am_H} {Q : Option Value → am_H → Prop} {a : Nat} : ax k_A_feed 34 ls (.ref a :: st) σ Q = ax_f (am_fld σ a 10 6) (fun v => ax k_A_feed 37 ls (v :: st) σ Q) := ru_getf f_A_feed_34 rfl
theorem f_A_feed_37 : am_cd k_A_feed 37 = some ((some .int), .iload_n 3, (0, 0, 0, 0, 0, .null)) := rfl
theorem s_A_feed_37 {a0 a1 a2 a4 a5 : Option Value} {st : List Value} {σ : am_H} {Q : Option Value → am_H → Prop} {x : Int32} : ax k_A_feed 37 [a0, a1, a2, some (.int x), a4, a5] st σ Q = ax k_A_feed 38 [a0, a1, a2, some (.int x), a4, a5] (.int x :: st) σ Q := ru_loc (q := (_, _)) f_A_feed_37 rfl rfl rfl
theorem f_A_feed_38 : am_cd k_A_feed 38 = some ((some .int), .invokevirtual 159, (55, 1, 517, 0, 7, .null)) := rfl
theorem s_A_feed_38 {ls : am_L} {st : List Value} {σ : am_H} {Q : Option Value → am_H → Prop} {p0 : Int32} {b : Nat} (hi : am_is σ b 7) (h8 : am_s8 st) : ax k_A_feed 38 ls (.int p0 :: .ref b :: st) σ Q = ax k_Tape_append 0 [some (.ref b), some (.int p0), none] [] σ (ax_k k_A_feed 41 ls st Q) := ru_vir (M' := rk_Tape_append) f_A_feed_38 rfl rfl rfl rfl hi h8 rfl rfl rfl rfl rfl
theorem f_A_feed_41 : am_cd k_A_feed 41 = some ((some .int), .aload_n 0, (0, 0, 0, 0, 0, .null)) := rfl
theorem s_A_feed_41 {a1 a2 a3 a4 a5 : Option Value} {st : List Value} {σ : am_H} {Q : Option Value → am_H → Prop} {x : Nat} : ax k_A_feed 41 [some (.ref x), a1, a2, a3, a4, a5] st σ Q = ax k_A_feed 42 [some (.ref x), a1, a2, a3, a4, a5] (.ref x :: st) σ Q := ru_loc (q := (_, _)) f_A_feed_41 rfl rfl rfl
theorem f_A_feed_42 : am_cd k_A_feed 42 = some ((some .int), .getfield 53, (10, 6, 286, 0, 3, .null)) := rfl
theorem s_A_feed_42 {ls : am_L} {st : List Value} {σ : am_H} {Q : Option Value → am_H → Prop} {a : Nat} : ax k_A_feed 42 ls (.ref a :: st) σ Q = ax_f (am_fld σ a 10 6) (fun v => ax k_A_feed 45 ls (v :: st) σ Q) := ru_getf f_A_feed_42 rfl
theorem f_A_feed_45 : am_cd k_A_feed 45 = some ((some .int), .iload 4, (0, 0, 0, 0, 0, .null)) := rfl
theorem s_A_feed_45 {a0 a1 a2 a3 a5 : Option Value} {st : List Value} {σ : am_H} {Q : Option Value → am_H → Prop} {x : Int32} : ax k_A_feed 45 [a0, a1, a2, a3, some (.int x), a5] st σ Q = ax k_A_feed 47 [a0, a1, a2, a3, some (.int x), a5] (.int x :: st) σ Q := ru_loc (q := (_, _)) f_A_feed_45 rfl rfl rfl
theorem f_A_feed_47 : am_cd k_A_feed 47 = some ((some .int), .invokevirtual 159, (55, 1, 517, 0, 7, .null)) := rfl
theorem s_A_feed_47 {ls : am_L} {st : List Value} {σ : am_H} {Q : Option Value → am_H → Prop} {p0 : Int32} {b : Nat} (hi : am_is σ b 7) (h8 : am_s8 st) : ax k_A_feed 47 ls (.int p0 :: .ref b :: st) σ Q = ax k_Tape_append 0 [some (.ref b), some (.int p0), none] [] σ (ax_k k_A_feed 50 ls st Q) := ru_vir (M' := rk_Tape_append) f_A_feed_47 rfl rfl rfl rfl hi h8 rfl rfl rfl rfl rfl
theorem f_A_feed_50 : am_cd k_A_feed 50 = some ((some .int), .aload_n 0, (0, 0, 0, 0, 0, .null)) := rfl
theorem s_A_feed_50 {a1 a2 a3 a4 a5 : Option Value} {st : List Value} {σ : am_H} {Q : Option Value → am_H → Prop} {x : Nat} : ax k_A_feed 50 [some (.ref x), a1, a2, a3, a4, a5] st σ Q = ax k_A_feed 51 [some (.ref x), a1, a2, a3, a4, a5] (.ref x :: st) σ Q := ru_loc (q := (_, _)) f_A_feed_50 rfl rfl rfl
theorem f_A_feed_51 : am_cd k_A_feed 51 = some ((some .int), .getfield 53, (10, 6, 286, 0, 3, .null)) := rfl
theorem s_A_feed_51 {ls : am_L} {st : List Value} {σ : am_H} {Q : Option Value → am_H → Prop} {a : Nat} : ax k_A_feed 51 ls (.ref a :: st) σ Q = ax_f (am_fld σ a 10 6) (fun v => ax k_A_feed 54 ls (v :: st) σ Q) := ru_getf f_A_feed_51 rfl
theorem f_A_feed_54 : am_cd k_A_feed 54 = some ((some .int), .iload 5, (0, 0, 0, 0, 0, .null)) := rfl
theorem s_A_feed_54 {a0 a1 a2 a3 a4 : Option Value} {st : List Value} {σ : am_H} {Q : Option Value → am_H → Prop} {x : Int32} : ax k_A_feed 54 [a0, a1, a2, a3, a4, some (.int x)] st σ Q = ax k_A_feed 56 [a0, a1, a2, a3, a4, some (.int x)] (.int x :: st) σ Q := ru_loc (q := (_, _)) f_A_feed_54 rfl rfl rfl
theorem f_A_feed_56 : am_cd k_A_feed 56 = some ((some .int), .invokevirtual 159, (55, 1, 517, 0, 7, .null)) := rfl
theorem s_A_feed_56 {ls : am_L} {st : List Value} {σ : am_H} {Q : Option Value → am_H → Prop} {p0 : Int32} {b : Nat} (hi : am_is σ b 7) (h8 : am_s8 st) : ax k_A_feed 56 ls (.int p0 :: .ref b :: st) σ Q = ax k_Tape_append 0 [some (.ref b), some (.int p0), none] [] σ (ax_k k_A_feed 59 ls st Q) := ru_vir (M' := rk_Tape_append) f_A_feed_56 rfl rfl rfl rfl hi h8 rfl rfl rfl rfl rfl
theorem f_A_feed_59 : am_cd k_A_feed 59 = some ((some .int), .aload_n 0, (0, 0, 0, 0, 0, .null)) := rfl
theorem s_A_feed_59 {a1 a2 a3 a4 a5 : Option Value} {st : List Value} {σ : am_H} {Q : Option Value → am_H → Prop} {x : Nat} : ax k_A_feed 59 [some (.ref x), a1, a2, a3, a4, a5] st σ Q = ax k_A_feed 60 [some (.ref x), a1, a2, a3, a4, a5] (.ref x :: st) σ Q := ru_loc (q := (_, _)) f_A_feed_59 rfl rfl rfl
theorem f_A_feed_60 : am_cd k_A_feed 60 = some ((some .int), .getfield 53, (10, 6, 286, 0, 3, .null)) := rfl
theorem s_A_feed_60 {ls : am_L} {st : List Value} {σ : am_H} {Q : Option Value → am_H → Prop} {a : Nat} : ax k_A_feed 60 ls (.ref a :: st) σ Q = ax_f (am_fld σ a 10 6) (fun v => ax k_A_feed 63 ls (v :: st) σ Q) := ru_getf f_A_feed_60 rfl
theorem f_A_feed_63 : am_cd k_A_feed 63 = some ((some .int), .getfield 154, (7, 1, 8, 1, 0, .null)) := rfl
theorem s_A_feed_63 {ls : am_L} {st : List Value} {σ : am_H} {Q : Option Value → am_H → Prop} {a : Nat} : ax k_A_feed 63 ls (.ref a :: st) σ Q = ax_f (am_fld σ a 7 1) (fun v => ax k_A_feed 66 ls (v :: st) σ Q) := ru_getf f_A_feed_63 rfl
theorem f_A_feed_66 : am_cd k_A_feed 66 = some ((some .int), .ireturn, (0, 0, 0, 0, 0, .null)) := rfl
theorem s_A_feed_66 {ls : am_L} {σ : am_H} {Q : Option Value → am_H → Prop} {v : Int32} : ax k_A_feed 66 ls [.int v] σ Q = Q (some (.int v)) σ := ru_iretI f_A_feed_66
theorem f_A_end_0 : am_cd k_A_end 0 = some ((some .int), .iload_n 1, (0, 0, 0, 0, 0, .null)) := rfl
theorem s_A_end_0 {a0 : Option Value} {st : List Value} {σ : am_H} {Q : Option Value → am_H → Prop} {x : Int32} : ax k_A_end 0 [a0, some (.int x)] st σ Q = ax k_A_end 1 [a0, some (.int x)] (.int x :: st) σ Q := ru_loc (q := (_, _)) f_A_end_0 rfl rfl rfl
theorem f_A_end_1 : am_cd k_A_end 1 = some ((some .int), .ifCond .lt 14, (15, 0, 0, 0, 0, .null)) := rfl
theorem s_A_end_1 {ls : am_L} {st : List Value} {σ : am_H} {Q : Option Value → am_H → Prop} {x : Int32} : ax k_A_end 1 ls (.int x :: st) σ Q = (if x < 0 then ax k_A_end 15 ls st σ Q else ax k_A_end 4 ls st σ Q) := (ru_if f_A_end_1 rfl).trans (ru_i_lt _ _ _ _)
theorem f_A_end_4 : am_cd k_A_end 4 = some ((some .int), .iload_n 1, (0, 0, 0, 0, 0, .null)) := rfl
theorem s_A_end_4 {a0 : Option Value} {st : List Value} {σ : am_H} {Q : Option Value → am_H → Prop} {x : Int32} : ax k_A_end 4 [a0, some (.int x)] st σ Q = ax k_A_end 5 [a0, some (.int x)] (.int x :: st) σ Q := ru_loc (q := (_, _)) f_A_end_4 rfl rfl rfl
theorem f_A_end_5 : am_cd k_A_end 5 = some ((some .int), .aload_n 0, (0, 0, 0, 0, 0, .null)) := rfl
theorem s_A_end_5 {a1 : Option Value} {st : List Value} {σ : am_H} {Q : Option Value → am_H → Prop} {x : Nat} : ax k_A_end 5 [some (.ref x), a1] st σ Q = ax k_A_end 6 [some (.ref x), a1] (.ref x :: st) σ Q := ru_loc (q := (_, _)) f_A_end_5 rfl rfl rfl
theorem f_A_end_6 : am_cd k_A_end 6 = some ((some .int), .getfield 53, (10, 6, 286, 0, 3, .null)) := rfl
theorem s_A_end_6 {ls : am_L} {st : List Value} {σ : am_H} {Q : Option Value → am_H → Prop} {a : Nat} : ax k_A_end 6 ls (.ref a :: st) σ Q = ax_f (am_fld σ a 10 6) (fun v => ax k_A_end 9 ls (v :: st) σ Q) := ru_getf f_A_end_6 rfl
theorem f_A_end_9 : am_cd k_A_end 9 = some ((some .int), .getfield 154, (7, 1, 8, 1, 0, .null)) := rfl
theorem s_A_end_9 {ls : am_L} {st : List Value} {σ : am_H} {Q : Option Value → am_H → Prop} {a : Nat} : ax k_A_end 9 ls (.ref a :: st) σ Q = ax_f (am_fld σ a 7 1) (fun v => ax k_A_end 12 ls (v :: st) σ Q) := ru_getf f_A_end_9 rfl
theorem f_A_end_12 : am_cd k_A_end 12 = some ((some .int), .if_icmp .le 5, (17, 0, 0, 0, 0, .null)) := rfl
theorem s_A_end_12 {ls : am_L} {st : List Value} {σ : am_H} {Q : Option Value → am_H → Prop} {x y : Int32} : ax k_A_end 12 ls (.int y :: .int x :: st) σ Q = (if y < x then ax k_A_end 15 ls st σ Q else ax k_A_end 17 ls st σ Q) := (ru_icmp f_A_end_12 rfl).trans (ru_i_le _ _ _ _)
theorem f_A_end_15 : am_cd k_A_end 15 = some ((some .int), .iconst (-1), (0, 0, 0, 0, 0, .null)) := rfl
theorem s_A_end_15 {ls : am_L} {st : List Value} {σ : am_H} {Q : Option Value → am_H → Prop} : ax k_A_end 15 ls st σ Q = ax k_A_end 16 ls (.int (-1) :: st) σ Q := ru_iconst f_A_end_15 (by decide +kernel) rfl
theorem f_A_end_16 : am_cd k_A_end 16 = some ((some .int), .ireturn, (0, 0, 0, 0, 0, .null)) := rfl
theorem s_A_end_16 {ls : am_L} {σ : am_H} {Q : Option Value → am_H → Prop} {v : Int32} : ax k_A_end 16 ls [.int v] σ Q = Q (some (.int v)) σ := ru_iretI f_A_end_16
theorem f_A_end_17 : am_cd k_A_end 17 = some ((some .int), .aload_n 0, (0, 0, 0, 0, 0, .null)) := rfl
theorem s_A_end_17 {a1 : Option Value} {st : List Value} {σ : am_H} {Q : Option Value → am_H → Prop} {x : Nat} : ax k_A_end 17 [some (.ref x), a1] st σ Q = ax k_A_end 18 [some (.ref x), a1] (.ref x :: st) σ Q := ru_loc (q := (_, _)) f_A_end_17 rfl rfl rfl
theorem f_A_end_18 : am_cd k_A_end 18 = some ((some .int), .getfield 53, (10, 6, 286, 0, 3, .null)) := rfl
theorem s_A_end_18 {ls : am_L} {st : List Value} {σ : am_H} {Q : Option Value → am_H → Prop} {a : Nat} : ax k_A_end 18 ls (.ref a :: st) σ Q = ax_f (am_fld σ a 10 6) (fun v => ax k_A_end 21 ls (v :: st) σ Q) := ru_getf f_A_end_18 rfl
theorem f_A_end_21 : am_cd k_A_end 21 = some ((some .int), .iload_n 1, (0, 0, 0, 0, 0, .null)) := rfl
theorem s_A_end_21 {a0 : Option Value} {st : List Value} {σ : am_H} {Q : Option Value → am_H → Prop} {x : Int32} : ax k_A_end 21 [a0, some (.int x)] st σ Q = ax k_A_end 22 [a0, some (.int x)] (.int x :: st) σ Q := ru_loc (q := (_, _)) f_A_end_21 rfl rfl rfl
theorem f_A_end_22 : am_cd k_A_end 22 = some ((some .int), .putfield 154, (7, 1, 8, 1, 0, .null)) := rfl
theorem s_A_end_22 {ls : am_L} {st : List Value} {σ : am_H} {Q : Option Value → am_H → Prop} {a : Nat} {v : Value} : ax k_A_end 22 ls (v :: .ref a :: st) σ Q = ax_f (am_fld σ a 7 1) (fun _ => a < am_top ∧ am_okv 0 v = true ∧ ax k_A_end 25 ls st (am_put σ a 1 v) Q) := ru_putf f_A_end_22 rfl
theorem f_A_end_25 : am_cd k_A_end 25 = some ((some .int), .iload_n 1, (0, 0, 0, 0, 0, .null)) := rfl
theorem s_A_end_25 {a0 : Option Value} {st : List Value} {σ : am_H} {Q : Option Value → am_H → Prop} {x : Int32} : ax k_A_end 25 [a0, some (.int x)] st σ Q = ax k_A_end 26 [a0, some (.int x)] (.int x :: st) σ Q := ru_loc (q := (_, _)) f_A_end_25 rfl rfl rfl
theorem f_A_end_26 : am_cd k_A_end 26 = some ((some .int), .ireturn, (0, 0, 0, 0, 0, .null)) := rfl
theorem s_A_end_26 {ls : am_L} {σ : am_H} {Q : Option Value → am_H → Prop} {v : Int32} : ax k_A_end 26 ls [.int v] σ Q = Q (some (.int v)) σ := ru_iretI f_A_end_26
theorem f_A_text_0 : am_cd k_A_text 0 = some ((some .int), .aload_n 0, (0, 0, 0, 0, 0, .null)) := rfl
theorem s_A_text_0 {a1 a2 : Option Value} {st : List Value} {σ : am_H} {Q : Option Value → am_H → Prop} {x : Nat} : ax k_A_text 0 [some (.ref x), a1, a2] st σ Q = ax k_A_text 1 [some (.ref x), a1, a2] (.ref x :: st) σ Q := ru_loc (q := (_, _)) f_A_text_0 rfl rfl rfl
theorem f_A_text_1 : am_cd k_A_text 1 = some ((some .int), .getfield 19, (10, 1, 281, 0, 3, .null)) := rfl
theorem s_A_text_1 {ls : am_L} {st : List Value} {σ : am_H} {Q : Option Value → am_H → Prop} {a : Nat} : ax k_A_text 1 ls (.ref a :: st) σ Q = ax_f (am_fld σ a 10 1) (fun v => ax k_A_text 4 ls (v :: st) σ Q) := ru_getf f_A_text_1 rfl
theorem f_A_text_4 : am_cd k_A_text 4 = some ((some .int), .iload_n 1, (0, 0, 0, 0, 0, .null)) := rfl
theorem s_A_text_4 {a0 a2 : Option Value} {st : List Value} {σ : am_H} {Q : Option Value → am_H → Prop} {x : Int32} : ax k_A_text 4 [a0, some (.int x), a2] st σ Q = ax k_A_text 5 [a0, some (.int x), a2] (.int x :: st) σ Q := ru_loc (q := (_, _)) f_A_text_4 rfl rfl rfl
theorem f_A_text_5 : am_cd k_A_text 5 = some ((some .int), .invokevirtual 110, (1, 1, 419, 0, 0, .null)) := rfl
theorem s_A_text_5 {ls : am_L} {st : List Value} {σ : am_H} {Q : Option Value → am_H → Prop} {p0 : Int32} {b : Nat} (hi : am_is σ b 0) (h8 : am_s8 st) : ax k_A_text 5 ls (.int p0 :: .ref b :: st) σ Q = ax k_Album_isPicture 0 [some (.ref b), some (.int p0)] [] σ (ax_k k_A_text 8 ls st Q) := ru_vir (M' := rk_Album_isPicture) f_A_text_5 rfl rfl rfl rfl hi h8 rfl rfl rfl rfl rfl
theorem f_A_text_8 : am_cd k_A_text 8 = some ((some .int), .ifCond .eq 14, (22, 0, 0, 0, 0, .null)) := rfl
theorem s_A_text_8 {ls : am_L} {st : List Value} {σ : am_H} {Q : Option Value → am_H → Prop} {x : Int32} : ax k_A_text 8 ls (.int x :: st) σ Q = (if x = 0 then ax k_A_text 22 ls st σ Q else ax k_A_text 11 ls st σ Q) := (ru_if f_A_text_8 rfl).trans (ru_i_eq _ _ _ _)
theorem f_A_text_11 : am_cd k_A_text 11 = some ((some .int), .aload_n 0, (0, 0, 0, 0, 0, .null)) := rfl
theorem s_A_text_11 {a1 a2 : Option Value} {st : List Value} {σ : am_H} {Q : Option Value → am_H → Prop} {x : Nat} : ax k_A_text 11 [some (.ref x), a1, a2] st σ Q = ax k_A_text 12 [some (.ref x), a1, a2] (.ref x :: st) σ Q := ru_loc (q := (_, _)) f_A_text_11 rfl rfl rfl
theorem f_A_text_12 : am_cd k_A_text 12 = some ((some .int), .getfield 57, (10, 7, 287, 0, 3, .null)) := rfl
theorem s_A_text_12 {ls : am_L} {st : List Value} {σ : am_H} {Q : Option Value → am_H → Prop} {a : Nat} : ax k_A_text 12 ls (.ref a :: st) σ Q = ax_f (am_fld σ a 10 7) (fun v => ax k_A_text 15 ls (v :: st) σ Q) := ru_getf f_A_text_12 rfl
theorem f_A_text_15 : am_cd k_A_text 15 = some ((some .int), .iload_n 1, (0, 0, 0, 0, 0, .null)) := rfl
theorem s_A_text_15 {a0 a2 : Option Value} {st : List Value} {σ : am_H} {Q : Option Value → am_H → Prop} {x : Int32} : ax k_A_text 15 [a0, some (.int x), a2] st σ Q = ax k_A_text 16 [a0, some (.int x), a2] (.int x :: st) σ Q := ru_loc (q := (_, _)) f_A_text_15 rfl rfl rfl
theorem f_A_text_16 : am_cd k_A_text 16 = some ((some .int), .invokevirtual 162, (51, 1, 529, 0, 6, .null)) := rfl
theorem s_A_text_16 {ls : am_L} {st : List Value} {σ : am_H} {Q : Option Value → am_H → Prop} {p0 : Int32} {b : Nat} (hi : am_is σ b 6) (h8 : am_s8 st) : ax k_A_text 16 ls (.int p0 :: .ref b :: st) σ Q = ax k_Shelf_hasRoom 0 [some (.ref b), some (.int p0)] [] σ (ax_k k_A_text 19 ls st Q) := ru_vir (M' := rk_Shelf_hasRoom) f_A_text_16 rfl rfl rfl rfl hi h8 rfl rfl rfl rfl rfl
theorem f_A_text_19 : am_cd k_A_text 19 = some ((some .int), .ifCond .ne 5, (24, 0, 0, 0, 0, .null)) := rfl
theorem s_A_text_19 {ls : am_L} {st : List Value} {σ : am_H} {Q : Option Value → am_H → Prop} {x : Int32} : ax k_A_text 19 ls (.int x :: st) σ Q = (if x = 0 then ax k_A_text 22 ls st σ Q else ax k_A_text 24 ls st σ Q) := (ru_if f_A_text_19 rfl).trans (ru_i_ne _ _ _ _)
theorem f_A_text_22 : am_cd k_A_text 22 = some ((some .int), .iconst (-1), (0, 0, 0, 0, 0, .null)) := rfl
theorem s_A_text_22 {ls : am_L} {st : List Value} {σ : am_H} {Q : Option Value → am_H → Prop} : ax k_A_text 22 ls st σ Q = ax k_A_text 23 ls (.int (-1) :: st) σ Q := ru_iconst f_A_text_22 (by decide +kernel) rfl
theorem f_A_text_23 : am_cd k_A_text 23 = some ((some .int), .ireturn, (0, 0, 0, 0, 0, .null)) := rfl
theorem s_A_text_23 {ls : am_L} {σ : am_H} {Q : Option Value → am_H → Prop} {v : Int32} : ax k_A_text 23 ls [.int v] σ Q = Q (some (.int v)) σ := ru_iretI f_A_text_23
theorem f_A_text_24 : am_cd k_A_text 24 = some ((some .int), .aload_n 0, (0, 0, 0, 0, 0, .null)) := rfl
theorem s_A_text_24 {a1 a2 : Option Value} {st : List Value} {σ : am_H} {Q : Option Value → am_H → Prop} {x : Nat} : ax k_A_text 24 [some (.ref x), a1, a2] st σ Q = ax k_A_text 25 [some (.ref x), a1, a2] (.ref x :: st) σ Q := ru_loc (q := (_, _)) f_A_text_24 rfl rfl rfl
theorem f_A_text_25 : am_cd k_A_text 25 = some ((some .int), .getfield 45, (10, 5, 285, 0, 3, .null)) := rfl
theorem s_A_text_25 {ls : am_L} {st : List Value} {σ : am_H} {Q : Option Value → am_H → Prop} {a : Nat} : ax k_A_text 25 ls (.ref a :: st) σ Q = ax_f (am_fld σ a 10 5) (fun v => ax k_A_text 28 ls (v :: st) σ Q) := ru_getf f_A_text_25 rfl
theorem f_A_text_28 : am_cd k_A_text 28 = some ((some .int), .aload_n 0, (0, 0, 0, 0, 0, .null)) := rfl
theorem s_A_text_28 {a1 a2 : Option Value} {st : List Value} {σ : am_H} {Q : Option Value → am_H → Prop} {x : Nat} : ax k_A_text 28 [some (.ref x), a1, a2] st σ Q = ax k_A_text 29 [some (.ref x), a1, a2] (.ref x :: st) σ Q := ru_loc (q := (_, _)) f_A_text_28 rfl rfl rfl
theorem f_A_text_29 : am_cd k_A_text 29 = some ((some .int), .getfield 10, (10, 0, 280, 0, 3, .null)) := rfl
theorem s_A_text_29 {ls : am_L} {st : List Value} {σ : am_H} {Q : Option Value → am_H → Prop} {a : Nat} : ax k_A_text 29 ls (.ref a :: st) σ Q = ax_f (am_fld σ a 10 0) (fun v => ax k_A_text 32 ls (v :: st) σ Q) := ru_getf f_A_text_29 rfl
theorem f_A_text_32 : am_cd k_A_text 32 = some ((some .int), .getfield 165, (9, 4, 1, 1, 0, .null)) := rfl
theorem s_A_text_32 {ls : am_L} {st : List Value} {σ : am_H} {Q : Option Value → am_H → Prop} {a : Nat} : ax k_A_text 32 ls (.ref a :: st) σ Q = ax_f (am_fld σ a 9 4) (fun v => ax k_A_text 35 ls (v :: st) σ Q) := ru_getf f_A_text_32 rfl
theorem f_A_text_35 : am_cd k_A_text 35 = some ((some .int), .invokevirtual 168, (30, 1, 533, 0, 4, .null)) := rfl
theorem s_A_text_35 {ls : am_L} {st : List Value} {σ : am_H} {Q : Option Value → am_H → Prop} {p0 : Int32} {b : Nat} (hi : am_is σ b 4) (h8 : am_s8 st) : ax k_A_text 35 ls (.int p0 :: .ref b :: st) σ Q = ax k_Reader_readTape 0 [some (.ref b), some (.int p0), none] [] σ (ax_k k_A_text 38 ls st Q) := ru_vir (M' := rk_Reader_readTape) f_A_text_35 rfl rfl rfl rfl hi h8 rfl rfl rfl rfl rfl
theorem f_A_text_38 : am_cd k_A_text 38 = some ((some .int), .astore_n 2, (0, 0, 0, 0, 0, .null)) := rfl
theorem s_A_text_38 {a0 a1 a2 : Option Value} {st : List Value} {σ : am_H} {Q : Option Value → am_H → Prop} {x : Nat} (hc : am_c2 a1 = false) : ax k_A_text 38 [a0, a1, a2] (.ref x :: st) σ Q = ax k_A_text 39 [a0, a1, some (.ref x)] st σ Q := ru_astore_n f_A_text_38 (Nat.le_of_ble_eq_true rfl) (ru_st1 (Nat.le_of_ble_eq_true rfl) (am_clr_c2 hc rfl) rfl) rfl
theorem s_A_text_38n {a0 a1 a2 : Option Value} {st : List Value} {σ : am_H} {Q : Option Value → am_H → Prop} (hc : am_c2 a1 = false) : ax k_A_text 38 [a0, a1, a2] (.null :: st) σ Q = ax k_A_text 39 [a0, a1, some (.null)] st σ Q := ru_astore_nN f_A_text_38 (Nat.le_of_ble_eq_true rfl) (ru_st1 (Nat.le_of_ble_eq_true rfl) (am_clr_c2 hc rfl) rfl) rfl
theorem f_A_text_39 : am_cd k_A_text 39 = some ((some .int), .aload_n 0, (0, 0, 0, 0, 0, .null)) := rfl
theorem s_A_text_39 {a1 a2 : Option Value} {st : List Value} {σ : am_H} {Q : Option Value → am_H → Prop} {x : Nat} : ax k_A_text 39 [some (.ref x), a1, a2] st σ Q = ax k_A_text 40 [some (.ref x), a1, a2] (.ref x :: st) σ Q := ru_loc (q := (_, _)) f_A_text_39 rfl rfl rfl
theorem f_A_text_40 : am_cd k_A_text 40 = some ((some .int), .getfield 53, (10, 6, 286, 0, 3, .null)) := rfl
theorem s_A_text_40 {ls : am_L} {st : List Value} {σ : am_H} {Q : Option Value → am_H → Prop} {a : Nat} : ax k_A_text 40 ls (.ref a :: st) σ Q = ax_f (am_fld σ a 10 6) (fun v => ax k_A_text 43 ls (v :: st) σ Q) := ru_getf f_A_text_40 rfl
theorem f_A_text_43 : am_cd k_A_text 43 = some ((some .int), .iconst 0, (0, 0, 0, 0, 0, .null)) := rfl
theorem s_A_text_43 {ls : am_L} {st : List Value} {σ : am_H} {Q : Option Value → am_H → Prop} : ax k_A_text 43 ls st σ Q = ax k_A_text 44 ls (.int 0 :: st) σ Q := ru_iconst f_A_text_43 (by decide +kernel) rfl
theorem f_A_text_44 : am_cd k_A_text 44 = some ((some .int), .putfield 154, (7, 1, 8, 1, 0, .null)) := rfl
theorem s_A_text_44 {ls : am_L} {st : List Value} {σ : am_H} {Q : Option Value → am_H → Prop} {a : Nat} {v : Value} : ax k_A_text 44 ls (v :: .ref a :: st) σ Q = ax_f (am_fld σ a 7 1) (fun _ => a < am_top ∧ am_okv 0 v = true ∧ ax k_A_text 47 ls st (am_put σ a 1 v) Q) := ru_putf f_A_text_44 rfl
theorem f_A_text_47 : am_cd k_A_text 47 = some ((some .int), .aload_n 2, (0, 0, 0, 0, 0, .null)) := rfl
theorem s_A_text_47 {a0 a1 : Option Value} {st : List Value} {σ : am_H} {Q : Option Value → am_H → Prop} {x : Nat} : ax k_A_text 47 [a0, a1, some (.ref x)] st σ Q = ax k_A_text 48 [a0, a1, some (.ref x)] (.ref x :: st) σ Q := ru_loc (q := (_, _)) f_A_text_47 rfl rfl rfl
theorem s_A_text_47n {a0 a1 : Option Value} {st : List Value} {σ : am_H} {Q : Option Value → am_H → Prop} : ax k_A_text 47 [a0, a1, some .null] st σ Q = ax k_A_text 48 [a0, a1, some .null] (.null :: st) σ Q := ru_loc (q := (_, _)) f_A_text_47 rfl rfl rfl
theorem f_A_text_48 : am_cd k_A_text 48 = some ((some .int), .ifnonnull 7, (55, 0, 0, 0, 0, .null)) := rfl
theorem s_A_text_48n {ls : am_L} {st : List Value} {σ : am_H} {Q : Option Value → am_H → Prop} : ax k_A_text 48 ls (.null :: st) σ Q = ax k_A_text 51 ls st σ Q := ru_br (q := (_, _)) f_A_text_48 rfl rfl rfl
theorem s_A_text_48 {ls : am_L} {st : List Value} {σ : am_H} {Q : Option Value → am_H → Prop} {a : Nat} : ax k_A_text 48 ls (.ref a :: st) σ Q = ax k_A_text 55 ls st σ Q := ru_br (q := (_, _)) f_A_text_48 rfl rfl rfl
theorem f_A_text_51 : am_cd k_A_text 51 = some ((some .int), .iconst (-1), (0, 0, 0, 0, 0, .null)) := rfl
theorem s_A_text_51 {ls : am_L} {st : List Value} {σ : am_H} {Q : Option Value → am_H → Prop} : ax k_A_text 51 ls st σ Q = ax k_A_text 52 ls (.int (-1) :: st) σ Q := ru_iconst f_A_text_51 (by decide +kernel) rfl
theorem f_A_text_52 : am_cd k_A_text 52 = some ((some .int), .goto 12, (64, 0, 0, 0, 0, .null)) := rfl
theorem s_A_text_52 {ls : am_L} {st : List Value} {σ : am_H} {Q : Option Value → am_H → Prop} : ax k_A_text 52 ls st σ Q = ax k_A_text 64 ls st σ Q := ru_goto f_A_text_52
theorem f_A_text_55 : am_cd k_A_text 55 = some ((some .int), .aload_n 0, (0, 0, 0, 0, 0, .null)) := rfl
theorem s_A_text_55 {a1 a2 : Option Value} {st : List Value} {σ : am_H} {Q : Option Value → am_H → Prop} {x : Nat} : ax k_A_text 55 [some (.ref x), a1, a2] st σ Q = ax k_A_text 56 [some (.ref x), a1, a2] (.ref x :: st) σ Q := ru_loc (q := (_, _)) f_A_text_55 rfl rfl rfl
theorem f_A_text_56 : am_cd k_A_text 56 = some ((some .int), .getfield 57, (10, 7, 287, 0, 3, .null)) := rfl
theorem s_A_text_56 {ls : am_L} {st : List Value} {σ : am_H} {Q : Option Value → am_H → Prop} {a : Nat} : ax k_A_text 56 ls (.ref a :: st) σ Q = ax_f (am_fld σ a 10 7) (fun v => ax k_A_text 59 ls (v :: st) σ Q) := ru_getf f_A_text_56 rfl
theorem f_A_text_59 : am_cd k_A_text 59 = some ((some .int), .iload_n 1, (0, 0, 0, 0, 0, .null)) := rfl
theorem s_A_text_59 {a0 a2 : Option Value} {st : List Value} {σ : am_H} {Q : Option Value → am_H → Prop} {x : Int32} : ax k_A_text 59 [a0, some (.int x), a2] st σ Q = ax k_A_text 60 [a0, some (.int x), a2] (.int x :: st) σ Q := ru_loc (q := (_, _)) f_A_text_59 rfl rfl rfl
theorem f_A_text_60 : am_cd k_A_text 60 = some ((some .int), .aload_n 2, (0, 0, 0, 0, 0, .null)) := rfl
theorem s_A_text_60 {a0 a1 : Option Value} {st : List Value} {σ : am_H} {Q : Option Value → am_H → Prop} {x : Nat} : ax k_A_text 60 [a0, a1, some (.ref x)] st σ Q = ax k_A_text 61 [a0, a1, some (.ref x)] (.ref x :: st) σ Q := ru_loc (q := (_, _)) f_A_text_60 rfl rfl rfl
theorem s_A_text_60n {a0 a1 : Option Value} {st : List Value} {σ : am_H} {Q : Option Value → am_H → Prop} : ax k_A_text 60 [a0, a1, some .null] st σ Q = ax k_A_text 61 [a0, a1, some .null] (.null :: st) σ Q := ru_loc (q := (_, _)) f_A_text_60 rfl rfl rfl
theorem f_A_text_61 : am_cd k_A_text 61 = some ((some .int), .invokevirtual 172, (52, 2, 709, 0, 6, .null)) := rfl
theorem s_A_text_61 {ls : am_L} {st : List Value} {σ : am_H} {Q : Option Value → am_H → Prop} {p0 : Int32} {p1 : Nat} {b : Nat} (hi : am_is σ b 6) (h8 : am_s8 st) : ax k_A_text 61 ls (.ref p1 :: .int p0 :: .ref b :: st) σ Q = ax k_Shelf_add 0 [some (.ref b), some (.int p0), some (.ref p1)] [] σ (ax_k k_A_text 64 ls st Q) := ru_vir (M' := rk_Shelf_add) f_A_text_61 rfl rfl rfl rfl hi h8 rfl rfl rfl rfl rfl
theorem f_A_text_64 : am_cd k_A_text 64 = some ((some .int), .ireturn, (0, 0, 0, 0, 0, .null)) := rfl
theorem s_A_text_64 {ls : am_L} {σ : am_H} {Q : Option Value → am_H → Prop} {v : Int32} : ax k_A_text 64 ls [.int v] σ Q = Q (some (.int v)) σ := ru_iretI f_A_text_64
theorem f_A_fault_0 : am_cd k_A_fault 0 = some ((some .int), .aload_n 0, (0, 0, 0, 0, 0, .null)) := rfl
theorem s_A_fault_0 {a1 : Option Value} {st : List Value} {σ : am_H} {Q : Option Value → am_H → Prop} {x : Nat} : ax k_A_fault 0 [some (.ref x), a1] st σ Q = ax k_A_fault 1 [some (.ref x), a1] (.ref x :: st) σ Q := ru_loc (q := (_, _)) f_A_fault_0 rfl rfl rfl
theorem f_A_fault_1 : am_cd k_A_fault 1 = some ((some .int), .getfield 45, (10, 5, 285, 0, 3, .null)) := rfl
theorem s_A_fault_1 {ls : am_L} {st : List Value} {σ : am_H} {Q : Option Value → am_H → Prop} {a : Nat} : ax k_A_fault 1 ls (.ref a :: st) σ Q = ax_f (am_fld σ a 10 5) (fun v => ax k_A_fault 4 ls (v :: st) σ Q) := ru_getf f_A_fault_1 rfl
theorem f_A_fault_4 : am_cd k_A_fault 4 = some ((some .int), .getfield 175, (4, 1, 10, 1, 2, .null)) := rfl
theorem s_A_fault_4 {ls : am_L} {st : List Value} {σ : am_H} {Q : Option Value → am_H → Prop} {a : Nat} : ax k_A_fault 4 ls (.ref a :: st) σ Q = ax_f (am_fld σ a 4 1) (fun v => ax k_A_fault 7 ls (v :: st) σ Q) := ru_getf f_A_fault_4 rfl
theorem f_A_fault_7 : am_cd k_A_fault 7 = some ((some .int), .ifCond .ne 5, (12, 0, 0, 0, 0, .null)) := rfl
theorem s_A_fault_7 {ls : am_L} {st : List Value} {σ : am_H} {Q : Option Value → am_H → Prop} {x : Int32} : ax k_A_fault 7 ls (.int x :: st) σ Q = (if x = 0 then ax k_A_fault 10 ls st σ Q else ax k_A_fault 12 ls st σ Q) := (ru_if f_A_fault_7 rfl).trans (ru_i_ne _ _ _ _)
theorem f_A_fault_10 : am_cd k_A_fault 10 = some ((some .int), .iconst (-1), (0, 0, 0, 0, 0, .null)) := rfl
theorem s_A_fault_10 {ls : am_L} {st : List Value} {σ : am_H} {Q : Option Value → am_H → Prop} : ax k_A_fault 10 ls st σ Q = ax k_A_fault 11 ls (.int (-1) :: st) σ Q := ru_iconst f_A_fault_10 (by decide +kernel) rfl
theorem f_A_fault_11 : am_cd k_A_fault 11 = some ((some .int), .ireturn, (0, 0, 0, 0, 0, .null)) := rfl
theorem s_A_fault_11 {ls : am_L} {σ : am_H} {Q : Option Value → am_H → Prop} {v : Int32} : ax k_A_fault 11 ls [.int v] σ Q = Q (some (.int v)) σ := ru_iretI f_A_fault_11
theorem f_A_fault_12 : am_cd k_A_fault 12 = some ((some .int), .iload_n 1, (0, 0, 0, 0, 0, .null)) := rfl
theorem s_A_fault_12 {a0 : Option Value} {st : List Value} {σ : am_H} {Q : Option Value → am_H → Prop} {x : Int32} : ax k_A_fault 12 [a0, some (.int x)] st σ Q = ax k_A_fault 13 [a0, some (.int x)] (.int x :: st) σ Q := ru_loc (q := (_, _)) f_A_fault_12 rfl rfl rfl
theorem f_A_fault_13 : am_cd k_A_fault 13 = some ((some .int), .lookupswitch 43 #[(0, 27), (1, 35)], (0, 0, 0, 0, 0, .null)) := rfl
theorem s_A_fault_13 {ls : am_L} {st : List Value} {σ : am_H} {Q : Option Value → am_H → Prop} {x : Int32} : ax k_A_fault 13 ls (.int x :: st) σ Q = (if x = 0 then ax k_A_fault 40 ls st σ Q else (if x = 1 then ax k_A_fault 48 ls st σ Q else ax k_A_fault 56 ls st σ Q)) := by
  by_cases h0 : x = 0
  · rw [if_pos h0]; subst h0; exact ru_look f_A_fault_13 (by decide)
  by_cases h1 : x = 1
  · rw [if_neg h0, if_pos h1]; subst h1; exact ru_look f_A_fault_13 (by decide)
  rw [if_neg h0, if_neg h1]
  have e0 : ¬ x.toInt = 0 := fun z => h0 (Int32.toInt_inj.mp (z.trans (by decide)))
  have e1 : ¬ x.toInt = 1 := fun z => h1 (Int32.toInt_inj.mp (z.trans (by decide)))
  exact ru_look f_A_fault_13 (by simp only [Op.lookupswitch.offset_cons]; rw [if_neg (fun z : (0 : Int) = x.toInt => e0 z.symm), if_neg (fun z : (1 : Int) = x.toInt => e1 z.symm)]; rfl)
theorem f_A_fault_40 : am_cd k_A_fault 40 = some ((some .int), .aload_n 0, (0, 0, 0, 0, 0, .null)) := rfl
theorem s_A_fault_40 {a1 : Option Value} {st : List Value} {σ : am_H} {Q : Option Value → am_H → Prop} {x : Nat} : ax k_A_fault 40 [some (.ref x), a1] st σ Q = ax k_A_fault 41 [some (.ref x), a1] (.ref x :: st) σ Q := ru_loc (q := (_, _)) f_A_fault_40 rfl rfl rfl
theorem f_A_fault_41 : am_cd k_A_fault 41 = some ((some .int), .getfield 45, (10, 5, 285, 0, 3, .null)) := rfl
theorem s_A_fault_41 {ls : am_L} {st : List Value} {σ : am_H} {Q : Option Value → am_H → Prop} {a : Nat} : ax k_A_fault 41 ls (.ref a :: st) σ Q = ax_f (am_fld σ a 10 5) (fun v => ax k_A_fault 44 ls (v :: st) σ Q) := ru_getf f_A_fault_41 rfl
theorem f_A_fault_44 : am_cd k_A_fault 44 = some ((some .int), .getfield 179, (4, 2, 11, 1, 0, .null)) := rfl
theorem s_A_fault_44 {ls : am_L} {st : List Value} {σ : am_H} {Q : Option Value → am_H → Prop} {a : Nat} : ax k_A_fault 44 ls (.ref a :: st) σ Q = ax_f (am_fld σ a 4 2) (fun v => ax k_A_fault 47 ls (v :: st) σ Q) := ru_getf f_A_fault_44 rfl
theorem f_A_fault_47 : am_cd k_A_fault 47 = some ((some .int), .ireturn, (0, 0, 0, 0, 0, .null)) := rfl
theorem s_A_fault_47 {ls : am_L} {σ : am_H} {Q : Option Value → am_H → Prop} {v : Int32} : ax k_A_fault 47 ls [.int v] σ Q = Q (some (.int v)) σ := ru_iretI f_A_fault_47
theorem f_A_fault_48 : am_cd k_A_fault 48 = some ((some .int), .aload_n 0, (0, 0, 0, 0, 0, .null)) := rfl
theorem s_A_fault_48 {a1 : Option Value} {st : List Value} {σ : am_H} {Q : Option Value → am_H → Prop} {x : Nat} : ax k_A_fault 48 [some (.ref x), a1] st σ Q = ax k_A_fault 49 [some (.ref x), a1] (.ref x :: st) σ Q := ru_loc (q := (_, _)) f_A_fault_48 rfl rfl rfl
theorem f_A_fault_49 : am_cd k_A_fault 49 = some ((some .int), .getfield 45, (10, 5, 285, 0, 3, .null)) := rfl
theorem s_A_fault_49 {ls : am_L} {st : List Value} {σ : am_H} {Q : Option Value → am_H → Prop} {a : Nat} : ax k_A_fault 49 ls (.ref a :: st) σ Q = ax_f (am_fld σ a 10 5) (fun v => ax k_A_fault 52 ls (v :: st) σ Q) := ru_getf f_A_fault_49 rfl
theorem f_A_fault_52 : am_cd k_A_fault 52 = some ((some .int), .getfield 182, (4, 3, 12, 1, 0, .null)) := rfl
theorem s_A_fault_52 {ls : am_L} {st : List Value} {σ : am_H} {Q : Option Value → am_H → Prop} {a : Nat} : ax k_A_fault 52 ls (.ref a :: st) σ Q = ax_f (am_fld σ a 4 3) (fun v => ax k_A_fault 55 ls (v :: st) σ Q) := ru_getf f_A_fault_52 rfl
theorem f_A_fault_55 : am_cd k_A_fault 55 = some ((some .int), .ireturn, (0, 0, 0, 0, 0, .null)) := rfl
theorem s_A_fault_55 {ls : am_L} {σ : am_H} {Q : Option Value → am_H → Prop} {v : Int32} : ax k_A_fault 55 ls [.int v] σ Q = Q (some (.int v)) σ := ru_iretI f_A_fault_55
theorem f_A_fault_56 : am_cd k_A_fault 56 = some ((some .int), .iconst (-1), (0, 0, 0, 0, 0, .null)) := rfl
theorem s_A_fault_56 {ls : am_L} {st : List Value} {σ : am_H} {Q : Option Value → am_H → Prop} : ax k_A_fault 56 ls st σ Q = ax k_A_fault 57 ls (.int (-1) :: st) σ Q := ru_iconst f_A_fault_56 (by decide +kernel) rfl
theorem f_A_fault_57 : am_cd k_A_fault 57 = some ((some .int), .ireturn, (0, 0, 0, 0, 0, .null)) := rfl
theorem s_A_fault_57 {ls : am_L} {σ : am_H} {Q : Option Value → am_H → Prop} {v : Int32} : ax k_A_fault 57 ls [.int v] σ Q = Q (some (.int v)) σ := ru_iretI f_A_fault_57
theorem f_A_why_0 : am_cd k_A_why 0 = some ((some .int), .iload 5, (0, 0, 0, 0, 0, .null)) := rfl
theorem s_A_why_0 {a0 a1 a2 a3 a4 a6 : Option Value} {st : List Value} {σ : am_H} {Q : Option Value → am_H → Prop} {x : Int32} : ax k_A_why 0 [a0, a1, a2, a3, a4, some (.int x), a6] st σ Q = ax k_A_why 2 [a0, a1, a2, a3, a4, some (.int x), a6] (.int x :: st) σ Q := ru_loc (q := (_, _)) f_A_why_0 rfl rfl rfl
theorem f_A_why_2 : am_cd k_A_why 2 = some ((some .int), .iconst (-1), (0, 0, 0, 0, 0, .null)) := rfl
theorem s_A_why_2 {ls : am_L} {st : List Value} {σ : am_H} {Q : Option Value → am_H → Prop} : ax k_A_why 2 ls st σ Q = ax k_A_why 3 ls (.int (-1) :: st) σ Q := ru_iconst f_A_why_2 (by decide +kernel) rfl
theorem f_A_why_3 : am_cd k_A_why 3 = some ((some .int), .if_icmp .eq 15, (18, 0, 0, 0, 0, .null)) := rfl
theorem s_A_why_3 {ls : am_L} {st : List Value} {σ : am_H} {Q : Option Value → am_H → Prop} {x y : Int32} : ax k_A_why 3 ls (.int y :: .int x :: st) σ Q = (if x = y then ax k_A_why 18 ls st σ Q else ax k_A_why 6 ls st σ Q) := (ru_icmp f_A_why_3 rfl).trans (ru_i_eq _ _ _ _)
theorem f_A_why_6 : am_cd k_A_why 6 = some ((some .int), .aload_n 0, (0, 0, 0, 0, 0, .null)) := rfl
theorem s_A_why_6 {a1 a2 a3 a4 a5 a6 : Option Value} {st : List Value} {σ : am_H} {Q : Option Value → am_H → Prop} {x : Nat} : ax k_A_why 6 [some (.ref x), a1, a2, a3, a4, a5, a6] st σ Q = ax k_A_why 7 [some (.ref x), a1, a2, a3, a4, a5, a6] (.ref x :: st) σ Q := ru_loc (q := (_, _)) f_A_why_6 rfl rfl rfl
theorem f_A_why_7 : am_cd k_A_why 7 = some ((some .int), .getfield 10, (10, 0, 280, 0, 3, .null)) := rfl
theorem s_A_why_7 {ls : am_L} {st : List Value} {σ : am_H} {Q : Option Value → am_H → Prop} {a : Nat} : ax k_A_why 7 ls (.ref a :: st) σ Q = ax_f (am_fld σ a 10 0) (fun v => ax k_A_why 10 ls (v :: st) σ Q) := ru_getf f_A_why_7 rfl
theorem f_A_why_10 : am_cd k_A_why 10 = some ((some .int), .iload 5, (0, 0, 0, 0, 0, .null)) := rfl
theorem s_A_why_10 {a0 a1 a2 a3 a4 a6 : Option Value} {st : List Value} {σ : am_H} {Q : Option Value → am_H → Prop} {x : Int32} : ax k_A_why 10 [a0, a1, a2, a3, a4, some (.int x), a6] st σ Q = ax k_A_why 12 [a0, a1, a2, a3, a4, some (.int x), a6] (.int x :: st) σ Q := ru_loc (q := (_, _)) f_A_why_10 rfl rfl rfl
theorem f_A_why_12 : am_cd k_A_why 12 = some ((some .int), .invokevirtual 113, (60, 1, 423, 0, 9, .null)) := rfl
theorem s_A_why_12 {ls : am_L} {st : List Value} {σ : am_H} {Q : Option Value → am_H → Prop} {p0 : Int32} {b : Nat} (hi : am_is σ b 9) (h8 : am_s8 st) : ax k_A_why 12 ls (.int p0 :: .ref b :: st) σ Q = ax k_WordTree_isWord 0 [some (.ref b), some (.int p0)] [] σ (ax_k k_A_why 15 ls st Q) := ru_vir (M' := rk_WordTree_isWord) f_A_why_12 rfl rfl rfl rfl hi h8 rfl rfl rfl rfl rfl
theorem f_A_why_15 : am_cd k_A_why 15 = some ((some .int), .ifCond .eq 7, (22, 0, 0, 0, 0, .null)) := rfl
theorem s_A_why_15 {ls : am_L} {st : List Value} {σ : am_H} {Q : Option Value → am_H → Prop} {x : Int32} : ax k_A_why 15 ls (.int x :: st) σ Q = (if x = 0 then ax k_A_why 22 ls st σ Q else ax k_A_why 18 ls st σ Q) := (ru_if f_A_why_15 rfl).trans (ru_i_eq _ _ _ _)
theorem f_A_why_18 : am_cd k_A_why 18 = some ((some .int), .iconst 1, (0, 0, 0, 0, 0, .null)) := rfl
theorem s_A_why_18 {ls : am_L} {st : List Value} {σ : am_H} {Q : Option Value → am_H → Prop} : ax k_A_why 18 ls st σ Q = ax k_A_why 19 ls (.int 1 :: st) σ Q := ru_iconst f_A_why_18 (by decide +kernel) rfl
theorem f_A_why_19 : am_cd k_A_why 19 = some ((some .int), .goto 4, (23, 0, 0, 0, 0, .null)) := rfl
theorem s_A_why_19 {ls : am_L} {st : List Value} {σ : am_H} {Q : Option Value → am_H → Prop} : ax k_A_why 19 ls st σ Q = ax k_A_why 23 ls st σ Q := ru_goto f_A_why_19
theorem f_A_why_22 : am_cd k_A_why 22 = some ((some .int), .iconst 0, (0, 0, 0, 0, 0, .null)) := rfl
theorem s_A_why_22 {ls : am_L} {st : List Value} {σ : am_H} {Q : Option Value → am_H → Prop} : ax k_A_why 22 ls st σ Q = ax k_A_why 23 ls (.int 0 :: st) σ Q := ru_iconst f_A_why_22 (by decide +kernel) rfl
theorem f_A_why_23 : am_cd k_A_why 23 = some ((some .int), .istore 6, (0, 0, 0, 0, 0, .null)) := rfl
theorem s_A_why_23 {a0 a1 a2 a3 a4 a5 a6 : Option Value} {st : List Value} {σ : am_H} {Q : Option Value → am_H → Prop} {x : Int32} (hc : am_c2 a5 = false) : ax k_A_why 23 [a0, a1, a2, a3, a4, a5, a6] (.int x :: st) σ Q = ax k_A_why 25 [a0, a1, a2, a3, a4, a5, some (.int x)] st σ Q := ru_istore f_A_why_23 (Nat.le_of_ble_eq_true rfl) (ru_st1 (Nat.le_of_ble_eq_true rfl) (am_clr_c2 hc rfl) rfl) rfl
theorem f_A_why_25 : am_cd k_A_why 25 = some ((some .int), .iload 6, (0, 0, 0, 0, 0, .null)) := rfl
theorem s_A_why_25 {a0 a1 a2 a3 a4 a5 : Option Value} {st : List Value} {σ : am_H} {Q : Option Value → am_H → Prop} {x : Int32} : ax k_A_why 25 [a0, a1, a2, a3, a4, a5, some (.int x)] st σ Q = ax k_A_why 27 [a0, a1, a2, a3, a4, a5, some (.int x)] (.int x :: st) σ Q := ru_loc (q := (_, _)) f_A_why_25 rfl rfl rfl
theorem f_A_why_27 : am_cd k_A_why 27 = some ((some .int), .ifCond .eq 15, (42, 0, 0, 0, 0, .null)) := rfl
theorem s_A_why_27 {ls : am_L} {st : List Value} {σ : am_H} {Q : Option Value → am_H → Prop} {x : Int32} : ax k_A_why 27 ls (.int x :: st) σ Q = (if x = 0 then ax k_A_why 42 ls st σ Q else ax k_A_why 30 ls st σ Q) := (ru_if f_A_why_27 rfl).trans (ru_i_eq _ _ _ _)
theorem f_A_why_30 : am_cd k_A_why 30 = some ((some .int), .aload_n 0, (0, 0, 0, 0, 0, .null)) := rfl
theorem s_A_why_30 {a1 a2 a3 a4 a5 a6 : Option Value} {st : List Value} {σ : am_H} {Q : Option Value → am_H → Prop} {x : Nat} : ax k_A_why 30 [some (.ref x), a1, a2, a3, a4, a5, a6] st σ Q = ax k_A_why 31 [some (.ref x), a1, a2, a3, a4, a5, a6] (.ref x :: st) σ Q := ru_loc (q := (_, _)) f_A_why_30 rfl rfl rfl
theorem f_A_why_31 : am_cd k_A_why 31 = some ((some .int), .iload_n 1, (0, 0, 0, 0, 0, .null)) := rfl
theorem s_A_why_31 {a0 a2 a3 a4 a5 a6 : Option Value} {st : List Value} {σ : am_H} {Q : Option Value → am_H → Prop} {x : Int32} : ax k_A_why 31 [a0, some (.int x), a2, a3, a4, a5, a6] st σ Q = ax k_A_why 32 [a0, some (.int x), a2, a3, a4, a5, a6] (.int x :: st) σ Q := ru_loc (q := (_, _)) f_A_why_31 rfl rfl rfl
theorem f_A_why_32 : am_cd k_A_why 32 = some ((some .int), .iload_n 2, (0, 0, 0, 0, 0, .null)) := rfl
theorem s_A_why_32 {a0 a1 a3 a4 a5 a6 : Option Value} {st : List Value} {σ : am_H} {Q : Option Value → am_H → Prop} {x : Int32} : ax k_A_why 32 [a0, a1, some (.int x), a3, a4, a5, a6] st σ Q = ax k_A_why 33 [a0, a1, some (.int x), a3, a4, a5, a6] (.int x :: st) σ Q := ru_loc (q := (_, _)) f_A_why_32 rfl rfl rfl
theorem f_A_why_33 : am_cd k_A_why 33 = some ((some .int), .iload_n 3, (0, 0, 0, 0, 0, .null)) := rfl
theorem s_A_why_33 {a0 a1 a2 a4 a5 a6 : Option Value} {st : List Value} {σ : am_H} {Q : Option Value → am_H → Prop} {x : Int32} : ax k_A_why 33 [a0, a1, a2, some (.int x), a4, a5, a6] st σ Q = ax k_A_why 34 [a0, a1, a2, some (.int x), a4, a5, a6] (.int x :: st) σ Q := ru_loc (q := (_, _)) f_A_why_33 rfl rfl rfl
theorem f_A_why_34 : am_cd k_A_why 34 = some ((some .int), .iload 4, (0, 0, 0, 0, 0, .null)) := rfl
theorem s_A_why_34 {a0 a1 a2 a3 a5 a6 : Option Value} {st : List Value} {σ : am_H} {Q : Option Value → am_H → Prop} {x : Int32} : ax k_A_why 34 [a0, a1, a2, a3, some (.int x), a5, a6] st σ Q = ax k_A_why 36 [a0, a1, a2, a3, some (.int x), a5, a6] (.int x :: st) σ Q := ru_loc (q := (_, _)) f_A_why_34 rfl rfl rfl
theorem f_A_why_36 : am_cd k_A_why 36 = some ((some .int), .invokevirtual 185, (106, 4, 723, 0, 10, .null)) := rfl
theorem s_A_why_36 {ls : am_L} {st : List Value} {σ : am_H} {Q : Option Value → am_H → Prop} {p0 : Int32} {p1 : Int32} {p2 : Int32} {p3 : Int32} {b : Nat} (hi : am_is σ b 10) (h8 : am_s8 st) : ax k_A_why 36 ls (.int p3 :: .int p2 :: .int p1 :: .int p0 :: .ref b :: st) σ Q = ax k_A_canBeUsed 0 [some (.ref b), some (.int p0), some (.int p1), some (.int p2), some (.int p3)] [] σ (ax_k k_A_why 39 ls st Q) := ru_vir (M' := rk_A_canBeUsed) f_A_why_36 rfl rfl rfl rfl hi h8 rfl rfl rfl rfl rfl
theorem f_A_why_39 : am_cd k_A_why 39 = some ((some .int), .ifCond .ne 5, (44, 0, 0, 0, 0, .null)) := rfl
theorem s_A_why_39 {ls : am_L} {st : List Value} {σ : am_H} {Q : Option Value → am_H → Prop} {x : Int32} : ax k_A_why 39 ls (.int x :: st) σ Q = (if x = 0 then ax k_A_why 42 ls st σ Q else ax k_A_why 44 ls st σ Q) := (ru_if f_A_why_39 rfl).trans (ru_i_ne _ _ _ _)
theorem f_A_why_42 : am_cd k_A_why 42 = some ((some .int), .iconst (-1), (0, 0, 0, 0, 0, .null)) := rfl
theorem s_A_why_42 {ls : am_L} {st : List Value} {σ : am_H} {Q : Option Value → am_H → Prop} : ax k_A_why 42 ls st σ Q = ax k_A_why 43 ls (.int (-1) :: st) σ Q := ru_iconst f_A_why_42 (by decide +kernel) rfl
theorem f_A_why_43 : am_cd k_A_why 43 = some ((some .int), .ireturn, (0, 0, 0, 0, 0, .null)) := rfl
theorem s_A_why_43 {ls : am_L} {σ : am_H} {Q : Option Value → am_H → Prop} {v : Int32} : ax k_A_why 43 ls [.int v] σ Q = Q (some (.int v)) σ := ru_iretI f_A_why_43
theorem f_A_why_44 : am_cd k_A_why 44 = some ((some .int), .aload_n 0, (0, 0, 0, 0, 0, .null)) := rfl
theorem s_A_why_44 {a1 a2 a3 a4 a5 a6 : Option Value} {st : List Value} {σ : am_H} {Q : Option Value → am_H → Prop} {x : Nat} : ax k_A_why 44 [some (.ref x), a1, a2, a3, a4, a5, a6] st σ Q = ax k_A_why 45 [some (.ref x), a1, a2, a3, a4, a5, a6] (.ref x :: st) σ Q := ru_loc (q := (_, _)) f_A_why_44 rfl rfl rfl
theorem f_A_why_45 : am_cd k_A_why 45 = some ((some .int), .getfield 39, (10, 4, 284, 0, 3, .null)) := rfl
theorem s_A_why_45 {ls : am_L} {st : List Value} {σ : am_H} {Q : Option Value → am_H → Prop} {a : Nat} : ax k_A_why 45 ls (.ref a :: st) σ Q = ax_f (am_fld σ a 10 4) (fun v => ax k_A_why 48 ls (v :: st) σ Q) := ru_getf f_A_why_45 rfl
theorem f_A_why_48 : am_cd k_A_why 48 = some ((some .int), .iload_n 1, (0, 0, 0, 0, 0, .null)) := rfl
theorem s_A_why_48 {a0 a2 a3 a4 a5 a6 : Option Value} {st : List Value} {σ : am_H} {Q : Option Value → am_H → Prop} {x : Int32} : ax k_A_why 48 [a0, some (.int x), a2, a3, a4, a5, a6] st σ Q = ax k_A_why 49 [a0, some (.int x), a2, a3, a4, a5, a6] (.int x :: st) σ Q := ru_loc (q := (_, _)) f_A_why_48 rfl rfl rfl
theorem f_A_why_49 : am_cd k_A_why 49 = some ((some .int), .aload_n 0, (0, 0, 0, 0, 0, .null)) := rfl
theorem s_A_why_49 {a1 a2 a3 a4 a5 a6 : Option Value} {st : List Value} {σ : am_H} {Q : Option Value → am_H → Prop} {x : Nat} : ax k_A_why 49 [some (.ref x), a1, a2, a3, a4, a5, a6] st σ Q = ax k_A_why 50 [some (.ref x), a1, a2, a3, a4, a5, a6] (.ref x :: st) σ Q := ru_loc (q := (_, _)) f_A_why_49 rfl rfl rfl
theorem f_A_why_50 : am_cd k_A_why 50 = some ((some .int), .getfield 82, (10, 11, 291, 0, 0, .null)) := rfl
theorem s_A_why_50 {ls : am_L} {st : List Value} {σ : am_H} {Q : Option Value → am_H → Prop} {a : Nat} : ax k_A_why 50 ls (.ref a :: st) σ Q = ax_f (am_fld σ a 10 11) (fun v => ax k_A_why 53 ls (v :: st) σ Q) := ru_getf f_A_why_50 rfl
theorem f_A_why_53 : am_cd k_A_why 53 = some ((some .int), .iconst 0, (0, 0, 0, 0, 0, .null)) := rfl
theorem s_A_why_53 {ls : am_L} {st : List Value} {σ : am_H} {Q : Option Value → am_H → Prop} : ax k_A_why 53 ls st σ Q = ax k_A_why 54 ls (.int 0 :: st) σ Q := ru_iconst f_A_why_53 (by decide +kernel) rfl
theorem f_A_why_54 : am_cd k_A_why 54 = some ((some .int), .invokevirtual 150, (25, 3, 512, 0, 3, .null)) := rfl
theorem s_A_why_54 {ls : am_L} {st : List Value} {σ : am_H} {Q : Option Value → am_H → Prop} {p0 : Int32} {p1 : Int32} {p2 : Int32} {b : Nat} (hi : am_is σ b 3) (h8 : am_s8 st) : ax k_A_why 54 ls (.int p2 :: .int p1 :: .int p0 :: .ref b :: st) σ Q = ax k_Log_latest 0 [some (.ref b), some (.int p0), some (.int p1), some (.int p2), none] [] σ (ax_k k_A_why 57 ls st Q) := ru_vir (M' := rk_Log_latest) f_A_why_54 rfl rfl rfl rfl hi h8 rfl rfl rfl rfl rfl
theorem f_A_why_57 : am_cd k_A_why 57 = some ((some .int), .aload_n 0, (0, 0, 0, 0, 0, .null)) := rfl
theorem s_A_why_57 {a1 a2 a3 a4 a5 a6 : Option Value} {st : List Value} {σ : am_H} {Q : Option Value → am_H → Prop} {x : Nat} : ax k_A_why 57 [some (.ref x), a1, a2, a3, a4, a5, a6] st σ Q = ax k_A_why 58 [some (.ref x), a1, a2, a3, a4, a5, a6] (.ref x :: st) σ Q := ru_loc (q := (_, _)) f_A_why_57 rfl rfl rfl
theorem f_A_why_58 : am_cd k_A_why 58 = some ((some .int), .getfield 82, (10, 11, 291, 0, 0, .null)) := rfl
theorem s_A_why_58 {ls : am_L} {st : List Value} {σ : am_H} {Q : Option Value → am_H → Prop} {a : Nat} : ax k_A_why 58 ls (.ref a :: st) σ Q = ax_f (am_fld σ a 10 11) (fun v => ax k_A_why 61 ls (v :: st) σ Q) := ru_getf f_A_why_58 rfl
theorem f_A_why_61 : am_cd k_A_why 61 = some ((some .int), .if_icmp .le 5, (66, 0, 0, 0, 0, .null)) := rfl
theorem s_A_why_61 {ls : am_L} {st : List Value} {σ : am_H} {Q : Option Value → am_H → Prop} {x y : Int32} : ax k_A_why 61 ls (.int y :: .int x :: st) σ Q = (if y < x then ax k_A_why 64 ls st σ Q else ax k_A_why 66 ls st σ Q) := (ru_icmp f_A_why_61 rfl).trans (ru_i_le _ _ _ _)
theorem f_A_why_64 : am_cd k_A_why 64 = some ((some .int), .iconst 1, (0, 0, 0, 0, 0, .null)) := rfl
theorem s_A_why_64 {ls : am_L} {st : List Value} {σ : am_H} {Q : Option Value → am_H → Prop} : ax k_A_why 64 ls st σ Q = ax k_A_why 65 ls (.int 1 :: st) σ Q := ru_iconst f_A_why_64 (by decide +kernel) rfl
theorem f_A_why_65 : am_cd k_A_why 65 = some ((some .int), .ireturn, (0, 0, 0, 0, 0, .null)) := rfl
theorem s_A_why_65 {ls : am_L} {σ : am_H} {Q : Option Value → am_H → Prop} {v : Int32} : ax k_A_why 65 ls [.int v] σ Q = Q (some (.int v)) σ := ru_iretI f_A_why_65
theorem f_A_why_66 : am_cd k_A_why 66 = some ((some .int), .aload_n 0, (0, 0, 0, 0, 0, .null)) := rfl
theorem s_A_why_66 {a1 a2 a3 a4 a5 a6 : Option Value} {st : List Value} {σ : am_H} {Q : Option Value → am_H → Prop} {x : Nat} : ax k_A_why 66 [some (.ref x), a1, a2, a3, a4, a5, a6] st σ Q = ax k_A_why 67 [some (.ref x), a1, a2, a3, a4, a5, a6] (.ref x :: st) σ Q := ru_loc (q := (_, _)) f_A_why_66 rfl rfl rfl
theorem f_A_why_67 : am_cd k_A_why 67 = some ((some .int), .iload_n 1, (0, 0, 0, 0, 0, .null)) := rfl
theorem s_A_why_67 {a0 a2 a3 a4 a5 a6 : Option Value} {st : List Value} {σ : am_H} {Q : Option Value → am_H → Prop} {x : Int32} : ax k_A_why 67 [a0, some (.int x), a2, a3, a4, a5, a6] st σ Q = ax k_A_why 68 [a0, some (.int x), a2, a3, a4, a5, a6] (.int x :: st) σ Q := ru_loc (q := (_, _)) f_A_why_67 rfl rfl rfl
theorem f_A_why_68 : am_cd k_A_why 68 = some ((some .int), .iload_n 2, (0, 0, 0, 0, 0, .null)) := rfl
theorem s_A_why_68 {a0 a1 a3 a4 a5 a6 : Option Value} {st : List Value} {σ : am_H} {Q : Option Value → am_H → Prop} {x : Int32} : ax k_A_why 68 [a0, a1, some (.int x), a3, a4, a5, a6] st σ Q = ax k_A_why 69 [a0, a1, some (.int x), a3, a4, a5, a6] (.int x :: st) σ Q := ru_loc (q := (_, _)) f_A_why_68 rfl rfl rfl
theorem f_A_why_69 : am_cd k_A_why 69 = some ((some .int), .iload_n 3, (0, 0, 0, 0, 0, .null)) := rfl
theorem s_A_why_69 {a0 a1 a2 a4 a5 a6 : Option Value} {st : List Value} {σ : am_H} {Q : Option Value → am_H → Prop} {x : Int32} : ax k_A_why 69 [a0, a1, a2, some (.int x), a4, a5, a6] st σ Q = ax k_A_why 70 [a0, a1, a2, some (.int x), a4, a5, a6] (.int x :: st) σ Q := ru_loc (q := (_, _)) f_A_why_69 rfl rfl rfl
theorem f_A_why_70 : am_cd k_A_why 70 = some ((some .int), .iload 4, (0, 0, 0, 0, 0, .null)) := rfl
theorem s_A_why_70 {a0 a1 a2 a3 a5 a6 : Option Value} {st : List Value} {σ : am_H} {Q : Option Value → am_H → Prop} {x : Int32} : ax k_A_why 70 [a0, a1, a2, a3, some (.int x), a5, a6] st σ Q = ax k_A_why 72 [a0, a1, a2, a3, some (.int x), a5, a6] (.int x :: st) σ Q := ru_loc (q := (_, _)) f_A_why_70 rfl rfl rfl
theorem f_A_why_72 : am_cd k_A_why 72 = some ((some .int), .iload 5, (0, 0, 0, 0, 0, .null)) := rfl
theorem s_A_why_72 {a0 a1 a2 a3 a4 a6 : Option Value} {st : List Value} {σ : am_H} {Q : Option Value → am_H → Prop} {x : Int32} : ax k_A_why 72 [a0, a1, a2, a3, a4, some (.int x), a6] st σ Q = ax k_A_why 74 [a0, a1, a2, a3, a4, some (.int x), a6] (.int x :: st) σ Q := ru_loc (q := (_, _)) f_A_why_72 rfl rfl rfl
theorem f_A_why_74 : am_cd k_A_why 74 = some ((some .int), .invokevirtual 189, (108, 5, 730, 0, 10, .null)) := rfl
theorem s_A_why_74 {ls : am_L} {st : List Value} {σ : am_H} {Q : Option Value → am_H → Prop} {p0 : Int32} {p1 : Int32} {p2 : Int32} {p3 : Int32} {p4 : Int32} {b : Nat} (hi : am_is σ b 10) (h8 : am_s8 st) : ax k_A_why 74 ls (.int p4 :: .int p3 :: .int p2 :: .int p1 :: .int p0 :: .ref b :: st) σ Q = ax k_A_textAgainst 0 [some (.ref b), some (.int p0), some (.int p1), some (.int p2), some (.int p3), some (.int p4), none, none, none, none] [] σ (ax_k k_A_why 77 ls st Q) := ru_vir (M' := rk_A_textAgainst) f_A_why_74 rfl rfl rfl rfl hi h8 rfl rfl rfl rfl rfl
theorem f_A_why_77 : am_cd k_A_why 77 = some ((some .int), .iconst (-1), (0, 0, 0, 0, 0, .null)) := rfl
theorem s_A_why_77 {ls : am_L} {st : List Value} {σ : am_H} {Q : Option Value → am_H → Prop} : ax k_A_why 77 ls st σ Q = ax k_A_why 78 ls (.int (-1) :: st) σ Q := ru_iconst f_A_why_77 (by decide +kernel) rfl
theorem f_A_why_78 : am_cd k_A_why 78 = some ((some .int), .if_icmp .eq 5, (83, 0, 0, 0, 0, .null)) := rfl
theorem s_A_why_78 {ls : am_L} {st : List Value} {σ : am_H} {Q : Option Value → am_H → Prop} {x y : Int32} : ax k_A_why 78 ls (.int y :: .int x :: st) σ Q = (if x = y then ax k_A_why 83 ls st σ Q else ax k_A_why 81 ls st σ Q) := (ru_icmp f_A_why_78 rfl).trans (ru_i_eq _ _ _ _)
theorem f_A_why_81 : am_cd k_A_why 81 = some ((some .int), .iconst 2, (0, 0, 0, 0, 0, .null)) := rfl
theorem s_A_why_81 {ls : am_L} {st : List Value} {σ : am_H} {Q : Option Value → am_H → Prop} : ax k_A_why 81 ls st σ Q = ax k_A_why 82 ls (.int 2 :: st) σ Q := ru_iconst f_A_why_81 (by decide +kernel) rfl
theorem f_A_why_82 : am_cd k_A_why 82 = some ((some .int), .ireturn, (0, 0, 0, 0, 0, .null)) := rfl
theorem s_A_why_82 {ls : am_L} {σ : am_H} {Q : Option Value → am_H → Prop} {v : Int32} : ax k_A_why 82 ls [.int v] σ Q = Q (some (.int v)) σ := ru_iretI f_A_why_82
theorem f_A_why_83 : am_cd k_A_why 83 = some ((some .int), .aload_n 0, (0, 0, 0, 0, 0, .null)) := rfl
theorem s_A_why_83 {a1 a2 a3 a4 a5 a6 : Option Value} {st : List Value} {σ : am_H} {Q : Option Value → am_H → Prop} {x : Nat} : ax k_A_why 83 [some (.ref x), a1, a2, a3, a4, a5, a6] st σ Q = ax k_A_why 84 [some (.ref x), a1, a2, a3, a4, a5, a6] (.ref x :: st) σ Q := ru_loc (q := (_, _)) f_A_why_83 rfl rfl rfl
theorem f_A_why_84 : am_cd k_A_why 84 = some ((some .int), .iload_n 1, (0, 0, 0, 0, 0, .null)) := rfl
theorem s_A_why_84 {a0 a2 a3 a4 a5 a6 : Option Value} {st : List Value} {σ : am_H} {Q : Option Value → am_H → Prop} {x : Int32} : ax k_A_why 84 [a0, some (.int x), a2, a3, a4, a5, a6] st σ Q = ax k_A_why 85 [a0, some (.int x), a2, a3, a4, a5, a6] (.int x :: st) σ Q := ru_loc (q := (_, _)) f_A_why_84 rfl rfl rfl
theorem f_A_why_85 : am_cd k_A_why 85 = some ((some .int), .invokevirtual 193, (109, 1, 744, 0, 10, .null)) := rfl
theorem s_A_why_85 {ls : am_L} {st : List Value} {σ : am_H} {Q : Option Value → am_H → Prop} {p0 : Int32} {b : Nat} (hi : am_is σ b 10) (h8 : am_s8 st) : ax k_A_why 85 ls (.int p0 :: .ref b :: st) σ Q = ax k_A_personAgainst 0 [some (.ref b), some (.int p0), none, none] [] σ (ax_k k_A_why 88 ls st Q) := ru_vir (M' := rk_A_personAgainst) f_A_why_85 rfl rfl rfl rfl hi h8 rfl rfl rfl rfl rfl
theorem f_A_why_88 : am_cd k_A_why 88 = some ((some .int), .iconst (-1), (0, 0, 0, 0, 0, .null)) := rfl
theorem s_A_why_88 {ls : am_L} {st : List Value} {σ : am_H} {Q : Option Value → am_H → Prop} : ax k_A_why 88 ls st σ Q = ax k_A_why 89 ls (.int (-1) :: st) σ Q := ru_iconst f_A_why_88 (by decide +kernel) rfl
theorem f_A_why_89 : am_cd k_A_why 89 = some ((some .int), .if_icmp .eq 5, (94, 0, 0, 0, 0, .null)) := rfl
theorem s_A_why_89 {ls : am_L} {st : List Value} {σ : am_H} {Q : Option Value → am_H → Prop} {x y : Int32} : ax k_A_why 89 ls (.int y :: .int x :: st) σ Q = (if x = y then ax k_A_why 94 ls st σ Q else ax k_A_why 92 ls st σ Q) := (ru_icmp f_A_why_89 rfl).trans (ru_i_eq _ _ _ _)
theorem f_A_why_92 : am_cd k_A_why 92 = some ((some .int), .iconst 3, (0, 0, 0, 0, 0, .null)) := rfl
theorem s_A_why_92 {ls : am_L} {st : List Value} {σ : am_H} {Q : Option Value → am_H → Prop} : ax k_A_why 92 ls st σ Q = ax k_A_why 93 ls (.int 3 :: st) σ Q := ru_iconst f_A_why_92 (by decide +kernel) rfl
theorem f_A_why_93 : am_cd k_A_why 93 = some ((some .int), .ireturn, (0, 0, 0, 0, 0, .null)) := rfl
theorem s_A_why_93 {ls : am_L} {σ : am_H} {Q : Option Value → am_H → Prop} {v : Int32} : ax k_A_why 93 ls [.int v] σ Q = Q (some (.int v)) σ := ru_iretI f_A_why_93
theorem f_A_why_94 : am_cd k_A_why 94 = some ((some .int), .aload_n 0, (0, 0, 0, 0, 0, .null)) := rfl
theorem s_A_why_94 {a1 a2 a3 a4 a5 a6 : Option Value} {st : List Value} {σ : am_H} {Q : Option Value → am_H → Prop} {x : Nat} : ax k_A_why 94 [some (.ref x), a1, a2, a3, a4, a5, a6] st σ Q = ax k_A_why 95 [some (.ref x), a1, a2, a3, a4, a5, a6] (.ref x :: st) σ Q := ru_loc (q := (_, _)) f_A_why_94 rfl rfl rfl
theorem f_A_why_95 : am_cd k_A_why 95 = some ((some .int), .iload_n 1, (0, 0, 0, 0, 0, .null)) := rfl
theorem s_A_why_95 {a0 a2 a3 a4 a5 a6 : Option Value} {st : List Value} {σ : am_H} {Q : Option Value → am_H → Prop} {x : Int32} : ax k_A_why 95 [a0, some (.int x), a2, a3, a4, a5, a6] st σ Q = ax k_A_why 96 [a0, some (.int x), a2, a3, a4, a5, a6] (.int x :: st) σ Q := ru_loc (q := (_, _)) f_A_why_95 rfl rfl rfl
theorem f_A_why_96 : am_cd k_A_why 96 = some ((some .int), .iload_n 2, (0, 0, 0, 0, 0, .null)) := rfl
theorem s_A_why_96 {a0 a1 a3 a4 a5 a6 : Option Value} {st : List Value} {σ : am_H} {Q : Option Value → am_H → Prop} {x : Int32} : ax k_A_why 96 [a0, a1, some (.int x), a3, a4, a5, a6] st σ Q = ax k_A_why 97 [a0, a1, some (.int x), a3, a4, a5, a6] (.int x :: st) σ Q := ru_loc (q := (_, _)) f_A_why_96 rfl rfl rfl
theorem f_A_why_97 : am_cd k_A_why 97 = some ((some .int), .invokevirtual 197, (110, 2, 752, 0, 10, .null)) := rfl
theorem s_A_why_97 {ls : am_L} {st : List Value} {σ : am_H} {Q : Option Value → am_H → Prop} {p0 : Int32} {p1 : Int32} {b : Nat} (hi : am_is σ b 10) (h8 : am_s8 st) : ax k_A_why 97 ls (.int p1 :: .int p0 :: .ref b :: st) σ Q = ax k_A_saleAgainst 0 [some (.ref b), some (.int p0), some (.int p1)] [] σ (ax_k k_A_why 100 ls st Q) := ru_vir (M' := rk_A_saleAgainst) f_A_why_97 rfl rfl rfl rfl hi h8 rfl rfl rfl rfl rfl
theorem f_A_why_100 : am_cd k_A_why 100 = some ((some .int), .iconst (-1), (0, 0, 0, 0, 0, .null)) := rfl
theorem s_A_why_100 {ls : am_L} {st : List Value} {σ : am_H} {Q : Option Value → am_H → Prop} : ax k_A_why 100 ls st σ Q = ax k_A_why 101 ls (.int (-1) :: st) σ Q := ru_iconst f_A_why_100 (by decide +kernel) rfl
theorem f_A_why_101 : am_cd k_A_why 101 = some ((some .int), .if_icmp .eq 7, (108, 0, 0, 0, 0, .null)) := rfl
theorem s_A_why_101 {ls : am_L} {st : List Value} {σ : am_H} {Q : Option Value → am_H → Prop} {x y : Int32} : ax k_A_why 101 ls (.int y :: .int x :: st) σ Q = (if x = y then ax k_A_why 108 ls st σ Q else ax k_A_why 104 ls st σ Q) := (ru_icmp f_A_why_101 rfl).trans (ru_i_eq _ _ _ _)
theorem f_A_why_104 : am_cd k_A_why 104 = some ((some .int), .iconst 4, (0, 0, 0, 0, 0, .null)) := rfl
theorem s_A_why_104 {ls : am_L} {st : List Value} {σ : am_H} {Q : Option Value → am_H → Prop} : ax k_A_why 104 ls st σ Q = ax k_A_why 105 ls (.int 4 :: st) σ Q := ru_iconst f_A_why_104 (by decide +kernel) rfl
theorem f_A_why_105 : am_cd k_A_why 105 = some ((some .int), .goto 4, (109, 0, 0, 0, 0, .null)) := rfl
theorem s_A_why_105 {ls : am_L} {st : List Value} {σ : am_H} {Q : Option Value → am_H → Prop} : ax k_A_why 105 ls st σ Q = ax k_A_why 109 ls st σ Q := ru_goto f_A_why_105
theorem f_A_why_108 : am_cd k_A_why 108 = some ((some .int), .iconst 0, (0, 0, 0, 0, 0, .null)) := rfl
theorem s_A_why_108 {ls : am_L} {st : List Value} {σ : am_H} {Q : Option Value → am_H → Prop} : ax k_A_why 108 ls st σ Q = ax k_A_why 109 ls (.int 0 :: st) σ Q := ru_iconst f_A_why_108 (by decide +kernel) rfl
theorem f_A_why_109 : am_cd k_A_why 109 = some ((some .int), .ireturn, (0, 0, 0, 0, 0, .null)) := rfl
theorem s_A_why_109 {ls : am_L} {σ : am_H} {Q : Option Value → am_H → Prop} {v : Int32} : ax k_A_why 109 ls [.int v] σ Q = Q (some (.int v)) σ := ru_iretI f_A_why_109
theorem f_A_by_0 : am_cd k_A_by 0 = some ((some .int), .aload_n 0, (0, 0, 0, 0, 0, .null)) := rfl
theorem s_A_by_0 {a1 a2 a3 a4 a5 : Option Value} {st : List Value} {σ : am_H} {Q : Option Value → am_H → Prop} {x : Nat} : ax k_A_by 0 [some (.ref x), a1, a2, a3, a4, a5] st σ Q = ax k_A_by 1 [some (.ref x), a1, a2, a3, a4, a5] (.ref x :: st) σ Q := ru_loc (q := (_, _)) f_A_by_0 rfl rfl rfl
theorem f_A_by_1 : am_cd k_A_by 1 = some ((some .int), .iload_n 1, (0, 0, 0, 0, 0, .null)) := rfl
theorem s_A_by_1 {a0 a2 a3 a4 a5 : Option Value} {st : List Value} {σ : am_H} {Q : Option Value → am_H → Prop} {x : Int32} : ax k_A_by 1 [a0, some (.int x), a2, a3, a4, a5] st σ Q = ax k_A_by 2 [a0, some (.int x), a2, a3, a4, a5] (.int x :: st) σ Q := ru_loc (q := (_, _)) f_A_by_1 rfl rfl rfl
theorem f_A_by_2 : am_cd k_A_by 2 = some ((some .int), .iload_n 2, (0, 0, 0, 0, 0, .null)) := rfl
theorem s_A_by_2 {a0 a1 a3 a4 a5 : Option Value} {st : List Value} {σ : am_H} {Q : Option Value → am_H → Prop} {x : Int32} : ax k_A_by 2 [a0, a1, some (.int x), a3, a4, a5] st σ Q = ax k_A_by 3 [a0, a1, some (.int x), a3, a4, a5] (.int x :: st) σ Q := ru_loc (q := (_, _)) f_A_by_2 rfl rfl rfl
theorem f_A_by_3 : am_cd k_A_by 3 = some ((some .int), .iload_n 3, (0, 0, 0, 0, 0, .null)) := rfl
theorem s_A_by_3 {a0 a1 a2 a4 a5 : Option Value} {st : List Value} {σ : am_H} {Q : Option Value → am_H → Prop} {x : Int32} : ax k_A_by 3 [a0, a1, a2, some (.int x), a4, a5] st σ Q = ax k_A_by 4 [a0, a1, a2, some (.int x), a4, a5] (.int x :: st) σ Q := ru_loc (q := (_, _)) f_A_by_3 rfl rfl rfl
theorem f_A_by_4 : am_cd k_A_by 4 = some ((some .int), .iload 4, (0, 0, 0, 0, 0, .null)) := rfl
theorem s_A_by_4 {a0 a1 a2 a3 a5 : Option Value} {st : List Value} {σ : am_H} {Q : Option Value → am_H → Prop} {x : Int32} : ax k_A_by 4 [a0, a1, a2, a3, some (.int x), a5] st σ Q = ax k_A_by 6 [a0, a1, a2, a3, some (.int x), a5] (.int x :: st) σ Q := ru_loc (q := (_, _)) f_A_by_4 rfl rfl rfl
theorem f_A_by_6 : am_cd k_A_by 6 = some ((some .int), .iload 5, (0, 0, 0, 0, 0, .null)) := rfl
theorem s_A_by_6 {a0 a1 a2 a3 a4 : Option Value} {st : List Value} {σ : am_H} {Q : Option Value → am_H → Prop} {x : Int32} : ax k_A_by 6 [a0, a1, a2, a3, a4, some (.int x)] st σ Q = ax k_A_by 8 [a0, a1, a2, a3, a4, some (.int x)] (.int x :: st) σ Q := ru_loc (q := (_, _)) f_A_by_6 rfl rfl rfl
theorem f_A_by_8 : am_cd k_A_by 8 = some ((some .int), .invokevirtual 200, (89, 5, 769, 0, 10, .null)) := rfl
theorem s_A_by_8 {ls : am_L} {st : List Value} {σ : am_H} {Q : Option Value → am_H → Prop} {p0 : Int32} {p1 : Int32} {p2 : Int32} {p3 : Int32} {p4 : Int32} {b : Nat} (hi : am_is σ b 10) (h8 : am_s8 st) : ax k_A_by 8 ls (.int p4 :: .int p3 :: .int p2 :: .int p1 :: .int p0 :: .ref b :: st) σ Q = ax k_A_why 0 [some (.ref b), some (.int p0), some (.int p1), some (.int p2), some (.int p3), some (.int p4), none] [] σ (ax_k k_A_by 11 ls st Q) := ru_vir (M' := rk_A_why) f_A_by_8 rfl rfl rfl rfl hi h8 rfl rfl rfl rfl rfl
theorem f_A_by_11 : am_cd k_A_by 11 = some ((some .int), .tableswitch 50 2 4 #[25, 37, 43], (0, 0, 0, 0, 0, .null)) := rfl
theorem s_A_by_11 {ls : am_L} {st : List Value} {σ : am_H} {Q : Option Value → am_H → Prop} {x : Int32} : ax k_A_by 11 ls (.int x :: st) σ Q = (if x = 2 then ax k_A_by 36 ls st σ Q else (if x = 3 then ax k_A_by 48 ls st σ Q else (if x = 4 then ax k_A_by 54 ls st σ Q else ax k_A_by 61 ls st σ Q))) := by
  by_cases h0 : x = 2
  · rw [if_pos h0]; subst h0; exact ru_tabI f_A_by_11 (by decide) rfl rfl
  by_cases h1 : x = 3
  · rw [if_neg h0, if_pos h1]; subst h1; exact ru_tabI f_A_by_11 (by decide) rfl rfl
  by_cases h2 : x = 4
  · rw [if_neg h0, if_neg h1, if_pos h2]; subst h2; exact ru_tabI f_A_by_11 (by decide) rfl rfl
  rw [if_neg h0, if_neg h1, if_neg h2]
  have e0 : ¬ x.toInt = 2 := fun z => h0 (Int32.toInt_inj.mp (z.trans (by decide)))
  have e1 : ¬ x.toInt = 3 := fun z => h1 (Int32.toInt_inj.mp (z.trans (by decide)))
  have e2 : ¬ x.toInt = 4 := fun z => h2 (Int32.toInt_inj.mp (z.trans (by decide)))
  exact ru_tabO f_A_by_11 (by omega) rfl
theorem f_A_by_36 : am_cd k_A_by 36 = some ((some .int), .aload_n 0, (0, 0, 0, 0, 0, .null)) := rfl
theorem s_A_by_36 {a1 a2 a3 a4 a5 : Option Value} {st : List Value} {σ : am_H} {Q : Option Value → am_H → Prop} {x : Nat} : ax k_A_by 36 [some (.ref x), a1, a2, a3, a4, a5] st σ Q = ax k_A_by 37 [some (.ref x), a1, a2, a3, a4, a5] (.ref x :: st) σ Q := ru_loc (q := (_, _)) f_A_by_36 rfl rfl rfl
theorem f_A_by_37 : am_cd k_A_by 37 = some ((some .int), .iload_n 1, (0, 0, 0, 0, 0, .null)) := rfl
theorem s_A_by_37 {a0 a2 a3 a4 a5 : Option Value} {st : List Value} {σ : am_H} {Q : Option Value → am_H → Prop} {x : Int32} : ax k_A_by 37 [a0, some (.int x), a2, a3, a4, a5] st σ Q = ax k_A_by 38 [a0, some (.int x), a2, a3, a4, a5] (.int x :: st) σ Q := ru_loc (q := (_, _)) f_A_by_37 rfl rfl rfl
theorem f_A_by_38 : am_cd k_A_by 38 = some ((some .int), .iload_n 2, (0, 0, 0, 0, 0, .null)) := rfl
theorem s_A_by_38 {a0 a1 a3 a4 a5 : Option Value} {st : List Value} {σ : am_H} {Q : Option Value → am_H → Prop} {x : Int32} : ax k_A_by 38 [a0, a1, some (.int x), a3, a4, a5] st σ Q = ax k_A_by 39 [a0, a1, some (.int x), a3, a4, a5] (.int x :: st) σ Q := ru_loc (q := (_, _)) f_A_by_38 rfl rfl rfl
theorem f_A_by_39 : am_cd k_A_by 39 = some ((some .int), .iload_n 3, (0, 0, 0, 0, 0, .null)) := rfl
theorem s_A_by_39 {a0 a1 a2 a4 a5 : Option Value} {st : List Value} {σ : am_H} {Q : Option Value → am_H → Prop} {x : Int32} : ax k_A_by 39 [a0, a1, a2, some (.int x), a4, a5] st σ Q = ax k_A_by 40 [a0, a1, a2, some (.int x), a4, a5] (.int x :: st) σ Q := ru_loc (q := (_, _)) f_A_by_39 rfl rfl rfl
theorem f_A_by_40 : am_cd k_A_by 40 = some ((some .int), .iload 4, (0, 0, 0, 0, 0, .null)) := rfl
theorem s_A_by_40 {a0 a1 a2 a3 a5 : Option Value} {st : List Value} {σ : am_H} {Q : Option Value → am_H → Prop} {x : Int32} : ax k_A_by 40 [a0, a1, a2, a3, some (.int x), a5] st σ Q = ax k_A_by 42 [a0, a1, a2, a3, some (.int x), a5] (.int x :: st) σ Q := ru_loc (q := (_, _)) f_A_by_40 rfl rfl rfl
theorem f_A_by_42 : am_cd k_A_by 42 = some ((some .int), .iload 5, (0, 0, 0, 0, 0, .null)) := rfl
theorem s_A_by_42 {a0 a1 a2 a3 a4 : Option Value} {st : List Value} {σ : am_H} {Q : Option Value → am_H → Prop} {x : Int32} : ax k_A_by 42 [a0, a1, a2, a3, a4, some (.int x)] st σ Q = ax k_A_by 44 [a0, a1, a2, a3, a4, some (.int x)] (.int x :: st) σ Q := ru_loc (q := (_, _)) f_A_by_42 rfl rfl rfl
theorem f_A_by_44 : am_cd k_A_by 44 = some ((some .int), .invokevirtual 189, (108, 5, 730, 0, 10, .null)) := rfl
theorem s_A_by_44 {ls : am_L} {st : List Value} {σ : am_H} {Q : Option Value → am_H → Prop} {p0 : Int32} {p1 : Int32} {p2 : Int32} {p3 : Int32} {p4 : Int32} {b : Nat} (hi : am_is σ b 10) (h8 : am_s8 st) : ax k_A_by 44 ls (.int p4 :: .int p3 :: .int p2 :: .int p1 :: .int p0 :: .ref b :: st) σ Q = ax k_A_textAgainst 0 [some (.ref b), some (.int p0), some (.int p1), some (.int p2), some (.int p3), some (.int p4), none, none, none, none] [] σ (ax_k k_A_by 47 ls st Q) := ru_vir (M' := rk_A_textAgainst) f_A_by_44 rfl rfl rfl rfl hi h8 rfl rfl rfl rfl rfl
theorem f_A_by_47 : am_cd k_A_by 47 = some ((some .int), .ireturn, (0, 0, 0, 0, 0, .null)) := rfl
theorem s_A_by_47 {ls : am_L} {σ : am_H} {Q : Option Value → am_H → Prop} {v : Int32} : ax k_A_by 47 ls [.int v] σ Q = Q (some (.int v)) σ := ru_iretI f_A_by_47
theorem f_A_by_48 : am_cd k_A_by 48 = some ((some .int), .aload_n 0, (0, 0, 0, 0, 0, .null)) := rfl
theorem s_A_by_48 {a1 a2 a3 a4 a5 : Option Value} {st : List Value} {σ : am_H} {Q : Option Value → am_H → Prop} {x : Nat} : ax k_A_by 48 [some (.ref x), a1, a2, a3, a4, a5] st σ Q = ax k_A_by 49 [some (.ref x), a1, a2, a3, a4, a5] (.ref x :: st) σ Q := ru_loc (q := (_, _)) f_A_by_48 rfl rfl rfl
theorem f_A_by_49 : am_cd k_A_by 49 = some ((some .int), .iload_n 1, (0, 0, 0, 0, 0, .null)) := rfl
theorem s_A_by_49 {a0 a2 a3 a4 a5 : Option Value} {st : List Value} {σ : am_H} {Q : Option Value → am_H → Prop} {x : Int32} : ax k_A_by 49 [a0, some (.int x), a2, a3, a4, a5] st σ Q = ax k_A_by 50 [a0, some (.int x), a2, a3, a4, a5] (.int x :: st) σ Q := ru_loc (q := (_, _)) f_A_by_49 rfl rfl rfl
theorem f_A_by_50 : am_cd k_A_by 50 = some ((some .int), .invokevirtual 193, (109, 1, 744, 0, 10, .null)) := rfl
theorem s_A_by_50 {ls : am_L} {st : List Value} {σ : am_H} {Q : Option Value → am_H → Prop} {p0 : Int32} {b : Nat} (hi : am_is σ b 10) (h8 : am_s8 st) : ax k_A_by 50 ls (.int p0 :: .ref b :: st) σ Q = ax k_A_personAgainst 0 [some (.ref b), some (.int p0), none, none] [] σ (ax_k k_A_by 53 ls st Q) := ru_vir (M' := rk_A_personAgainst) f_A_by_50 rfl rfl rfl rfl hi h8 rfl rfl rfl rfl rfl
theorem f_A_by_53 : am_cd k_A_by 53 = some ((some .int), .ireturn, (0, 0, 0, 0, 0, .null)) := rfl
theorem s_A_by_53 {ls : am_L} {σ : am_H} {Q : Option Value → am_H → Prop} {v : Int32} : ax k_A_by 53 ls [.int v] σ Q = Q (some (.int v)) σ := ru_iretI f_A_by_53
theorem f_A_by_54 : am_cd k_A_by 54 = some ((some .int), .aload_n 0, (0, 0, 0, 0, 0, .null)) := rfl
theorem s_A_by_54 {a1 a2 a3 a4 a5 : Option Value} {st : List Value} {σ : am_H} {Q : Option Value → am_H → Prop} {x : Nat} : ax k_A_by 54 [some (.ref x), a1, a2, a3, a4, a5] st σ Q = ax k_A_by 55 [some (.ref x), a1, a2, a3, a4, a5] (.ref x :: st) σ Q := ru_loc (q := (_, _)) f_A_by_54 rfl rfl rfl
theorem f_A_by_55 : am_cd k_A_by 55 = some ((some .int), .iload_n 1, (0, 0, 0, 0, 0, .null)) := rfl
theorem s_A_by_55 {a0 a2 a3 a4 a5 : Option Value} {st : List Value} {σ : am_H} {Q : Option Value → am_H → Prop} {x : Int32} : ax k_A_by 55 [a0, some (.int x), a2, a3, a4, a5] st σ Q = ax k_A_by 56 [a0, some (.int x), a2, a3, a4, a5] (.int x :: st) σ Q := ru_loc (q := (_, _)) f_A_by_55 rfl rfl rfl
theorem f_A_by_56 : am_cd k_A_by 56 = some ((some .int), .iload_n 2, (0, 0, 0, 0, 0, .null)) := rfl
theorem s_A_by_56 {a0 a1 a3 a4 a5 : Option Value} {st : List Value} {σ : am_H} {Q : Option Value → am_H → Prop} {x : Int32} : ax k_A_by 56 [a0, a1, some (.int x), a3, a4, a5] st σ Q = ax k_A_by 57 [a0, a1, some (.int x), a3, a4, a5] (.int x :: st) σ Q := ru_loc (q := (_, _)) f_A_by_56 rfl rfl rfl
theorem f_A_by_57 : am_cd k_A_by 57 = some ((some .int), .invokevirtual 197, (110, 2, 752, 0, 10, .null)) := rfl
theorem s_A_by_57 {ls : am_L} {st : List Value} {σ : am_H} {Q : Option Value → am_H → Prop} {p0 : Int32} {p1 : Int32} {b : Nat} (hi : am_is σ b 10) (h8 : am_s8 st) : ax k_A_by 57 ls (.int p1 :: .int p0 :: .ref b :: st) σ Q = ax k_A_saleAgainst 0 [some (.ref b), some (.int p0), some (.int p1)] [] σ (ax_k k_A_by 60 ls st Q) := ru_vir (M' := rk_A_saleAgainst) f_A_by_57 rfl rfl rfl rfl hi h8 rfl rfl rfl rfl rfl
theorem f_A_by_60 : am_cd k_A_by 60 = some ((some .int), .ireturn, (0, 0, 0, 0, 0, .null)) := rfl
theorem s_A_by_60 {ls : am_L} {σ : am_H} {Q : Option Value → am_H → Prop} {v : Int32} : ax k_A_by 60 ls [.int v] σ Q = Q (some (.int v)) σ := ru_iretI f_A_by_60
theorem f_A_by_61 : am_cd k_A_by 61 = some ((some .int), .iconst (-1), (0, 0, 0, 0, 0, .null)) := rfl
theorem s_A_by_61 {ls : am_L} {st : List Value} {σ : am_H} {Q : Option Value → am_H → Prop} : ax k_A_by 61 ls st σ Q = ax k_A_by 62 ls (.int (-1) :: st) σ Q := ru_iconst f_A_by_61 (by decide +kernel) rfl
theorem f_A_by_62 : am_cd k_A_by 62 = some ((some .int), .ireturn, (0, 0, 0, 0, 0, .null)) := rfl
theorem s_A_by_62 {ls : am_L} {σ : am_H} {Q : Option Value → am_H → Prop} {v : Int32} : ax k_A_by 62 ls [.int v] σ Q = Q (some (.int v)) σ := ru_iretI f_A_by_62
theorem f_A_rate_0 : am_cd k_A_rate 0 = some ((some .boolean), .iload_n 1, (0, 0, 0, 0, 0, .null)) := rfl
theorem s_A_rate_0 {a0 a2 : Option Value} {st : List Value} {σ : am_H} {Q : Option Value → am_H → Prop} {x : Int32} : ax k_A_rate 0 [a0, some (.int x), a2] st σ Q = ax k_A_rate 1 [a0, some (.int x), a2] (.int x :: st) σ Q := ru_loc (q := (_, _)) f_A_rate_0 rfl rfl rfl
theorem f_A_rate_1 : am_cd k_A_rate 1 = some ((some .boolean), .iconst (-1), (0, 0, 0, 0, 0, .null)) := rfl
theorem s_A_rate_1 {ls : am_L} {st : List Value} {σ : am_H} {Q : Option Value → am_H → Prop} : ax k_A_rate 1 ls st σ Q = ax k_A_rate 2 ls (.int (-1) :: st) σ Q := ru_iconst f_A_rate_1 (by decide +kernel) rfl
theorem f_A_rate_2 : am_cd k_A_rate 2 = some ((some .boolean), .if_icmp .ne 20, (22, 0, 0, 0, 0, .null)) := rfl
theorem s_A_rate_2 {ls : am_L} {st : List Value} {σ : am_H} {Q : Option Value → am_H → Prop} {x y : Int32} : ax k_A_rate 2 ls (.int y :: .int x :: st) σ Q = (if x = y then ax k_A_rate 5 ls st σ Q else ax k_A_rate 22 ls st σ Q) := (ru_icmp f_A_rate_2 rfl).trans (ru_i_ne _ _ _ _)
theorem f_A_rate_5 : am_cd k_A_rate 5 = some ((some .boolean), .iload_n 2, (0, 0, 0, 0, 0, .null)) := rfl
theorem s_A_rate_5 {a0 a1 : Option Value} {st : List Value} {σ : am_H} {Q : Option Value → am_H → Prop} {x : Int32} : ax k_A_rate 5 [a0, a1, some (.int x)] st σ Q = ax k_A_rate 6 [a0, a1, some (.int x)] (.int x :: st) σ Q := ru_loc (q := (_, _)) f_A_rate_5 rfl rfl rfl
theorem f_A_rate_6 : am_cd k_A_rate 6 = some ((some .boolean), .ifCond .lt 16, (22, 0, 0, 0, 0, .null)) := rfl
theorem s_A_rate_6 {ls : am_L} {st : List Value} {σ : am_H} {Q : Option Value → am_H → Prop} {x : Int32} : ax k_A_rate 6 ls (.int x :: st) σ Q = (if x < 0 then ax k_A_rate 22 ls st σ Q else ax k_A_rate 9 ls st σ Q) := (ru_if f_A_rate_6 rfl).trans (ru_i_lt _ _ _ _)
theorem f_A_rate_9 : am_cd k_A_rate 9 = some ((some .boolean), .iload_n 2, (0, 0, 0, 0, 0, .null)) := rfl
theorem s_A_rate_9 {a0 a1 : Option Value} {st : List Value} {σ : am_H} {Q : Option Value → am_H → Prop} {x : Int32} : ax k_A_rate 9 [a0, a1, some (.int x)] st σ Q = ax k_A_rate 10 [a0, a1, some (.int x)] (.int x :: st) σ Q := ru_loc (q := (_, _)) f_A_rate_9 rfl rfl rfl
theorem f_A_rate_10 : am_cd k_A_rate 10 = some ((some .boolean), .bipush 100, (0, 0, 0, 0, 0, .null)) := rfl
theorem s_A_rate_10 {ls : am_L} {st : List Value} {σ : am_H} {Q : Option Value → am_H → Prop} : ax k_A_rate 10 ls st σ Q = ax k_A_rate 12 ls (.int 100 :: st) σ Q := ru_bipush f_A_rate_10 (by decide +kernel) rfl
theorem f_A_rate_12 : am_cd k_A_rate 12 = some ((some .boolean), .if_icmp .gt 10, (22, 0, 0, 0, 0, .null)) := rfl
theorem s_A_rate_12 {ls : am_L} {st : List Value} {σ : am_H} {Q : Option Value → am_H → Prop} {x y : Int32} : ax k_A_rate 12 ls (.int y :: .int x :: st) σ Q = (if y < x then ax k_A_rate 22 ls st σ Q else ax k_A_rate 15 ls st σ Q) := (ru_icmp f_A_rate_12 rfl).trans (ru_i_gt _ _ _ _)
theorem f_A_rate_15 : am_cd k_A_rate 15 = some ((some .boolean), .aload_n 0, (0, 0, 0, 0, 0, .null)) := rfl
theorem s_A_rate_15 {a1 a2 : Option Value} {st : List Value} {σ : am_H} {Q : Option Value → am_H → Prop} {x : Nat} : ax k_A_rate 15 [some (.ref x), a1, a2] st σ Q = ax k_A_rate 16 [some (.ref x), a1, a2] (.ref x :: st) σ Q := ru_loc (q := (_, _)) f_A_rate_15 rfl rfl rfl
theorem f_A_rate_16 : am_cd k_A_rate 16 = some ((some .boolean), .iload_n 2, (0, 0, 0, 0, 0, .null)) := rfl
theorem s_A_rate_16 {a0 a1 : Option Value} {st : List Value} {σ : am_H} {Q : Option Value → am_H → Prop} {x : Int32} : ax k_A_rate 16 [a0, a1, some (.int x)] st σ Q = ax k_A_rate 17 [a0, a1, some (.int x)] (.int x :: st) σ Q := ru_loc (q := (_, _)) f_A_rate_16 rfl rfl rfl
theorem f_A_rate_17 : am_cd k_A_rate 17 = some ((some .boolean), .putfield 78, (10, 10, 290, 0, 0, .null)) := rfl
theorem s_A_rate_17 {ls : am_L} {st : List Value} {σ : am_H} {Q : Option Value → am_H → Prop} {a : Nat} {v : Value} : ax k_A_rate 17 ls (v :: .ref a :: st) σ Q = ax_f (am_fld σ a 10 10) (fun _ => a < am_top ∧ am_okv 0 v = true ∧ ax k_A_rate 20 ls st (am_put σ a 10 v) Q) := ru_putf f_A_rate_17 rfl
theorem f_A_rate_20 : am_cd k_A_rate 20 = some ((some .boolean), .iconst 1, (0, 0, 0, 0, 0, .null)) := rfl
theorem s_A_rate_20 {ls : am_L} {st : List Value} {σ : am_H} {Q : Option Value → am_H → Prop} : ax k_A_rate 20 ls st σ Q = ax k_A_rate 21 ls (.int 1 :: st) σ Q := ru_iconst f_A_rate_20 (by decide +kernel) rfl
theorem f_A_rate_21 : am_cd k_A_rate 21 = some ((some .boolean), .ireturn, (0, 0, 0, 0, 0, .null)) := rfl
theorem s_A_rate_21 {ls : am_L} {σ : am_H} {Q : Option Value → am_H → Prop} {v : Int32} : ax k_A_rate 21 ls ([.int v]) σ Q = (am_nar .boolean v = true ∧ Q (some (.int v)) σ) := ru_iret f_A_rate_21
theorem f_A_rate_22 : am_cd k_A_rate 22 = some ((some .boolean), .iload_n 1, (0, 0, 0, 0, 0, .null)) := rfl
theorem s_A_rate_22 {a0 a2 : Option Value} {st : List Value} {σ : am_H} {Q : Option Value → am_H → Prop} {x : Int32} : ax k_A_rate 22 [a0, some (.int x), a2] st σ Q = ax k_A_rate 23 [a0, some (.int x), a2] (.int x :: st) σ Q := ru_loc (q := (_, _)) f_A_rate_22 rfl rfl rfl
theorem f_A_rate_23 : am_cd k_A_rate 23 = some ((some .boolean), .invokestatic 203, (102, 1, 728, 0, 10, .null)) := rfl
theorem s_A_rate_23 {ls : am_L} {st : List Value} {σ : am_H} {Q : Option Value → am_H → Prop} {p0 : Int32} (h8 : am_s8 st) : ax k_A_rate 23 ls (.int p0 :: st) σ Q = ax k_A_isUse 0 [some (.int p0)] [] σ (ax_k k_A_rate 26 ls st Q) := ru_sta (M' := rk_A_isUse) f_A_rate_23 rfl (by decide) rfl (by simp) rfl h8 rfl rfl rfl rfl rfl
theorem f_A_rate_26 : am_cd k_A_rate 26 = some ((some .boolean), .ifCond .eq 22, (48, 0, 0, 0, 0, .null)) := rfl
theorem s_A_rate_26 {ls : am_L} {st : List Value} {σ : am_H} {Q : Option Value → am_H → Prop} {x : Int32} : ax k_A_rate 26 ls (.int x :: st) σ Q = (if x = 0 then ax k_A_rate 48 ls st σ Q else ax k_A_rate 29 ls st σ Q) := (ru_if f_A_rate_26 rfl).trans (ru_i_eq _ _ _ _)
theorem f_A_rate_29 : am_cd k_A_rate 29 = some ((some .boolean), .iload_n 2, (0, 0, 0, 0, 0, .null)) := rfl
theorem s_A_rate_29 {a0 a1 : Option Value} {st : List Value} {σ : am_H} {Q : Option Value → am_H → Prop} {x : Int32} : ax k_A_rate 29 [a0, a1, some (.int x)] st σ Q = ax k_A_rate 30 [a0, a1, some (.int x)] (.int x :: st) σ Q := ru_loc (q := (_, _)) f_A_rate_29 rfl rfl rfl
theorem f_A_rate_30 : am_cd k_A_rate 30 = some ((some .boolean), .ifCond .lt 18, (48, 0, 0, 0, 0, .null)) := rfl
theorem s_A_rate_30 {ls : am_L} {st : List Value} {σ : am_H} {Q : Option Value → am_H → Prop} {x : Int32} : ax k_A_rate 30 ls (.int x :: st) σ Q = (if x < 0 then ax k_A_rate 48 ls st σ Q else ax k_A_rate 33 ls st σ Q) := (ru_if f_A_rate_30 rfl).trans (ru_i_lt _ _ _ _)
theorem f_A_rate_33 : am_cd k_A_rate 33 = some ((some .boolean), .iload_n 2, (0, 0, 0, 0, 0, .null)) := rfl
theorem s_A_rate_33 {a0 a1 : Option Value} {st : List Value} {σ : am_H} {Q : Option Value → am_H → Prop} {x : Int32} : ax k_A_rate 33 [a0, a1, some (.int x)] st σ Q = ax k_A_rate 34 [a0, a1, some (.int x)] (.int x :: st) σ Q := ru_loc (q := (_, _)) f_A_rate_33 rfl rfl rfl
theorem f_A_rate_34 : am_cd k_A_rate 34 = some ((some .boolean), .ldc 206, (0, 0, 324, 0, 0, .int (100000))) := rfl
theorem s_A_rate_34 {ls : am_L} {st : List Value} {σ : am_H} {Q : Option Value → am_H → Prop} : ax k_A_rate 34 ls st σ Q = ax k_A_rate 36 ls (.int (100000) :: st) σ Q := ru_rd f_A_rate_34 rfl rfl rfl rfl rfl
theorem f_A_rate_36 : am_cd k_A_rate 36 = some ((some .boolean), .if_icmp .gt 12, (48, 0, 0, 0, 0, .null)) := rfl
theorem s_A_rate_36 {ls : am_L} {st : List Value} {σ : am_H} {Q : Option Value → am_H → Prop} {x y : Int32} : ax k_A_rate 36 ls (.int y :: .int x :: st) σ Q = (if y < x then ax k_A_rate 48 ls st σ Q else ax k_A_rate 39 ls st σ Q) := (ru_icmp f_A_rate_36 rfl).trans (ru_i_gt _ _ _ _)
theorem f_A_rate_39 : am_cd k_A_rate 39 = some ((some .boolean), .aload_n 0, (0, 0, 0, 0, 0, .null)) := rfl
theorem s_A_rate_39 {a1 a2 : Option Value} {st : List Value} {σ : am_H} {Q : Option Value → am_H → Prop} {x : Nat} : ax k_A_rate 39 [some (.ref x), a1, a2] st σ Q = ax k_A_rate 40 [some (.ref x), a1, a2] (.ref x :: st) σ Q := ru_loc (q := (_, _)) f_A_rate_39 rfl rfl rfl
theorem f_A_rate_40 : am_cd k_A_rate 40 = some ((some .boolean), .getfield 68, (10, 9, 289, 0, 3, .null)) := rfl
theorem s_A_rate_40 {ls : am_L} {st : List Value} {σ : am_H} {Q : Option Value → am_H → Prop} {a : Nat} : ax k_A_rate 40 ls (.ref a :: st) σ Q = ax_f (am_fld σ a 10 9) (fun v => ax k_A_rate 43 ls (v :: st) σ Q) := ru_getf f_A_rate_40 rfl
theorem f_A_rate_43 : am_cd k_A_rate 43 = some ((some .boolean), .iload_n 1, (0, 0, 0, 0, 0, .null)) := rfl
theorem s_A_rate_43 {a0 a2 : Option Value} {st : List Value} {σ : am_H} {Q : Option Value → am_H → Prop} {x : Int32} : ax k_A_rate 43 [a0, some (.int x), a2] st σ Q = ax k_A_rate 44 [a0, some (.int x), a2] (.int x :: st) σ Q := ru_loc (q := (_, _)) f_A_rate_43 rfl rfl rfl
theorem f_A_rate_44 : am_cd k_A_rate 44 = some ((some .boolean), .iload_n 2, (0, 0, 0, 0, 0, .null)) := rfl
theorem s_A_rate_44 {a0 a1 : Option Value} {st : List Value} {σ : am_H} {Q : Option Value → am_H → Prop} {x : Int32} : ax k_A_rate 44 [a0, a1, some (.int x)] st σ Q = ax k_A_rate 45 [a0, a1, some (.int x)] (.int x :: st) σ Q := ru_loc (q := (_, _)) f_A_rate_44 rfl rfl rfl
theorem f_A_rate_45 : am_cd k_A_rate 45 = some ((some .boolean), .iastore, (0, 0, 0, 0, 0, .null)) := rfl
theorem s_A_rate_45 {ls : am_L} {st : List Value} {σ : am_H} {Q : Option Value → am_H → Prop} {a : Nat} {j x : Int32} : ax k_A_rate 45 ls (.int x :: .int j :: .ref a :: st) σ Q = ax_f (am_j σ a) (fun q => q.1 = 0 ∧ am_ix j q.2.1 ∧ a < am_top ∧ ax k_A_rate 46 ls st (am_set σ a (am_ia 0 q.2.1 (upd q.2.2 j.toNatClampNeg x))) Q) := rv_iast f_A_rate_45 rfl
theorem f_A_rate_46 : am_cd k_A_rate 46 = some ((some .boolean), .iconst 1, (0, 0, 0, 0, 0, .null)) := rfl
theorem s_A_rate_46 {ls : am_L} {st : List Value} {σ : am_H} {Q : Option Value → am_H → Prop} : ax k_A_rate 46 ls st σ Q = ax k_A_rate 47 ls (.int 1 :: st) σ Q := ru_iconst f_A_rate_46 (by decide +kernel) rfl
theorem f_A_rate_47 : am_cd k_A_rate 47 = some ((some .boolean), .ireturn, (0, 0, 0, 0, 0, .null)) := rfl
theorem s_A_rate_47 {ls : am_L} {σ : am_H} {Q : Option Value → am_H → Prop} {v : Int32} : ax k_A_rate 47 ls ([.int v]) σ Q = (am_nar .boolean v = true ∧ Q (some (.int v)) σ) := ru_iret f_A_rate_47
theorem f_A_rate_48 : am_cd k_A_rate 48 = some ((some .boolean), .iconst 0, (0, 0, 0, 0, 0, .null)) := rfl
theorem s_A_rate_48 {ls : am_L} {st : List Value} {σ : am_H} {Q : Option Value → am_H → Prop} : ax k_A_rate 48 ls st σ Q = ax k_A_rate 49 ls (.int 0 :: st) σ Q := ru_iconst f_A_rate_48 (by decide +kernel) rfl
theorem f_A_rate_49 : am_cd k_A_rate 49 = some ((some .boolean), .ireturn, (0, 0, 0, 0, 0, .null)) := rfl
theorem s_A_rate_49 {ls : am_L} {σ : am_H} {Q : Option Value → am_H → Prop} {v : Int32} : ax k_A_rate 49 ls ([.int v]) σ Q = (am_nar .boolean v = true ∧ Q (some (.int v)) σ) := ru_iret f_A_rate_49
theorem f_A_sale_0 : am_cd k_A_sale 0 = some ((some .int), .iload 6, (0, 0, 0, 0, 0, .null)) := rfl
theorem s_A_sale_0 {a0 a1 a2 a3 a4 a5 a7 a8 : Option Value} {st : List Value} {σ : am_H} {Q : Option Value → am_H → Prop} {x : Int32} : ax k_A_sale 0 [a0, a1, a2, a3, a4, a5, some (.int x), a7, a8] st σ Q = ax k_A_sale 2 [a0, a1, a2, a3, a4, a5, some (.int x), a7, a8] (.int x :: st) σ Q := ru_loc (q := (_, _)) f_A_sale_0 rfl rfl rfl
theorem f_A_sale_2 : am_cd k_A_sale 2 = some ((some .int), .iconst (-1), (0, 0, 0, 0, 0, .null)) := rfl
theorem s_A_sale_2 {ls : am_L} {st : List Value} {σ : am_H} {Q : Option Value → am_H → Prop} : ax k_A_sale 2 ls st σ Q = ax k_A_sale 3 ls (.int (-1) :: st) σ Q := ru_iconst f_A_sale_2 (by decide +kernel) rfl
theorem f_A_sale_3 : am_cd k_A_sale 3 = some ((some .int), .if_icmp .eq 20, (23, 0, 0, 0, 0, .null)) := rfl
theorem s_A_sale_3 {ls : am_L} {st : List Value} {σ : am_H} {Q : Option Value → am_H → Prop} {x y : Int32} : ax k_A_sale 3 ls (.int y :: .int x :: st) σ Q = (if x = y then ax k_A_sale 23 ls st σ Q else ax k_A_sale 6 ls st σ Q) := (ru_icmp f_A_sale_3 rfl).trans (ru_i_eq _ _ _ _)
theorem f_A_sale_6 : am_cd k_A_sale 6 = some ((some .int), .iload 6, (0, 0, 0, 0, 0, .null)) := rfl
theorem s_A_sale_6 {a0 a1 a2 a3 a4 a5 a7 a8 : Option Value} {st : List Value} {σ : am_H} {Q : Option Value → am_H → Prop} {x : Int32} : ax k_A_sale 6 [a0, a1, a2, a3, a4, a5, some (.int x), a7, a8] st σ Q = ax k_A_sale 8 [a0, a1, a2, a3, a4, a5, some (.int x), a7, a8] (.int x :: st) σ Q := ru_loc (q := (_, _)) f_A_sale_6 rfl rfl rfl
theorem f_A_sale_8 : am_cd k_A_sale 8 = some ((some .int), .invokestatic 85, (99, 1, 321, 0, 10, .null)) := rfl
theorem s_A_sale_8 {ls : am_L} {st : List Value} {σ : am_H} {Q : Option Value → am_H → Prop} {p0 : Int32} (h8 : am_s8 st) : ax k_A_sale 8 ls (.int p0 :: st) σ Q = ax k_A_isMinute 0 [some (.int p0)] [] σ (ax_k k_A_sale 11 ls st Q) := ru_sta (M' := rk_A_isMinute) f_A_sale_8 rfl (by decide) rfl (by simp) rfl h8 rfl rfl rfl rfl rfl
theorem f_A_sale_11 : am_cd k_A_sale 11 = some ((some .int), .ifCond .eq 16, (27, 0, 0, 0, 0, .null)) := rfl
theorem s_A_sale_11 {ls : am_L} {st : List Value} {σ : am_H} {Q : Option Value → am_H → Prop} {x : Int32} : ax k_A_sale 11 ls (.int x :: st) σ Q = (if x = 0 then ax k_A_sale 27 ls st σ Q else ax k_A_sale 14 ls st σ Q) := (ru_if f_A_sale_11 rfl).trans (ru_i_eq _ _ _ _)
theorem f_A_sale_14 : am_cd k_A_sale 14 = some ((some .int), .iload 6, (0, 0, 0, 0, 0, .null)) := rfl
theorem s_A_sale_14 {a0 a1 a2 a3 a4 a5 a7 a8 : Option Value} {st : List Value} {σ : am_H} {Q : Option Value → am_H → Prop} {x : Int32} : ax k_A_sale 14 [a0, a1, a2, a3, a4, a5, some (.int x), a7, a8] st σ Q = ax k_A_sale 16 [a0, a1, a2, a3, a4, a5, some (.int x), a7, a8] (.int x :: st) σ Q := ru_loc (q := (_, _)) f_A_sale_14 rfl rfl rfl
theorem f_A_sale_16 : am_cd k_A_sale 16 = some ((some .int), .aload_n 0, (0, 0, 0, 0, 0, .null)) := rfl
theorem s_A_sale_16 {a1 a2 a3 a4 a5 a6 a7 a8 : Option Value} {st : List Value} {σ : am_H} {Q : Option Value → am_H → Prop} {x : Nat} : ax k_A_sale 16 [some (.ref x), a1, a2, a3, a4, a5, a6, a7, a8] st σ Q = ax k_A_sale 17 [some (.ref x), a1, a2, a3, a4, a5, a6, a7, a8] (.ref x :: st) σ Q := ru_loc (q := (_, _)) f_A_sale_16 rfl rfl rfl
theorem f_A_sale_17 : am_cd k_A_sale 17 = some ((some .int), .getfield 82, (10, 11, 291, 0, 0, .null)) := rfl
theorem s_A_sale_17 {ls : am_L} {st : List Value} {σ : am_H} {Q : Option Value → am_H → Prop} {a : Nat} : ax k_A_sale 17 ls (.ref a :: st) σ Q = ax_f (am_fld σ a 10 11) (fun v => ax k_A_sale 20 ls (v :: st) σ Q) := ru_getf f_A_sale_17 rfl
theorem f_A_sale_20 : am_cd k_A_sale 20 = some ((some .int), .if_icmp .lt 7, (27, 0, 0, 0, 0, .null)) := rfl
theorem s_A_sale_20 {ls : am_L} {st : List Value} {σ : am_H} {Q : Option Value → am_H → Prop} {x y : Int32} : ax k_A_sale 20 ls (.int y :: .int x :: st) σ Q = (if x < y then ax k_A_sale 27 ls st σ Q else ax k_A_sale 23 ls st σ Q) := (ru_icmp f_A_sale_20 rfl).trans (ru_i_lt _ _ _ _)
theorem f_A_sale_23 : am_cd k_A_sale 23 = some ((some .int), .iconst 1, (0, 0, 0, 0, 0, .null)) := rfl
theorem s_A_sale_23 {ls : am_L} {st : List Value} {σ : am_H} {Q : Option Value → am_H → Prop} : ax k_A_sale 23 ls st σ Q = ax k_A_sale 24 ls (.int 1 :: st) σ Q := ru_iconst f_A_sale_23 (by decide +kernel) rfl
theorem f_A_sale_24 : am_cd k_A_sale 24 = some ((some .int), .goto 4, (28, 0, 0, 0, 0, .null)) := rfl
theorem s_A_sale_24 {ls : am_L} {st : List Value} {σ : am_H} {Q : Option Value → am_H → Prop} : ax k_A_sale 24 ls st σ Q = ax k_A_sale 28 ls st σ Q := ru_goto f_A_sale_24
theorem f_A_sale_27 : am_cd k_A_sale 27 = some ((some .int), .iconst 0, (0, 0, 0, 0, 0, .null)) := rfl
theorem s_A_sale_27 {ls : am_L} {st : List Value} {σ : am_H} {Q : Option Value → am_H → Prop} : ax k_A_sale 27 ls st σ Q = ax k_A_sale 28 ls (.int 0 :: st) σ Q := ru_iconst f_A_sale_27 (by decide +kernel) rfl
theorem f_A_sale_28 : am_cd k_A_sale 28 = some ((some .int), .istore 7, (0, 0, 0, 0, 0, .null)) := rfl
theorem s_A_sale_28 {a0 a1 a2 a3 a4 a5 a6 a7 a8 : Option Value} {st : List Value} {σ : am_H} {Q : Option Value → am_H → Prop} {x : Int32} (hc : am_c2 a6 = false) : ax k_A_sale 28 [a0, a1, a2, a3, a4, a5, a6, a7, a8] (.int x :: st) σ Q = ax k_A_sale 30 [a0, a1, a2, a3, a4, a5, a6, some (.int x), a8] st σ Q := ru_istore f_A_sale_28 (Nat.le_of_ble_eq_true rfl) (ru_st1 (Nat.le_of_ble_eq_true rfl) (am_clr_c2 hc rfl) rfl) rfl
theorem f_A_sale_30 : am_cd k_A_sale 30 = some ((some .int), .iload 7, (0, 0, 0, 0, 0, .null)) := rfl
theorem s_A_sale_30 {a0 a1 a2 a3 a4 a5 a6 a8 : Option Value} {st : List Value} {σ : am_H} {Q : Option Value → am_H → Prop} {x : Int32} : ax k_A_sale 30 [a0, a1, a2, a3, a4, a5, a6, some (.int x), a8] st σ Q = ax k_A_sale 32 [a0, a1, a2, a3, a4, a5, a6, some (.int x), a8] (.int x :: st) σ Q := ru_loc (q := (_, _)) f_A_sale_30 rfl rfl rfl
theorem f_A_sale_32 : am_cd k_A_sale 32 = some ((some .int), .ifCond .eq 27, (59, 0, 0, 0, 0, .null)) := rfl
theorem s_A_sale_32 {ls : am_L} {st : List Value} {σ : am_H} {Q : Option Value → am_H → Prop} {x : Int32} : ax k_A_sale 32 ls (.int x :: st) σ Q = (if x = 0 then ax k_A_sale 59 ls st σ Q else ax k_A_sale 35 ls st σ Q) := (ru_if f_A_sale_32 rfl).trans (ru_i_eq _ _ _ _)
theorem f_A_sale_35 : am_cd k_A_sale 35 = some ((some .int), .aload_n 0, (0, 0, 0, 0, 0, .null)) := rfl
theorem s_A_sale_35 {a1 a2 a3 a4 a5 a6 a7 a8 : Option Value} {st : List Value} {σ : am_H} {Q : Option Value → am_H → Prop} {x : Nat} : ax k_A_sale 35 [some (.ref x), a1, a2, a3, a4, a5, a6, a7, a8] st σ Q = ax k_A_sale 36 [some (.ref x), a1, a2, a3, a4, a5, a6, a7, a8] (.ref x :: st) σ Q := ru_loc (q := (_, _)) f_A_sale_35 rfl rfl rfl
theorem f_A_sale_36 : am_cd k_A_sale 36 = some ((some .int), .getfield 64, (10, 8, 288, 0, 3, .null)) := rfl
theorem s_A_sale_36 {ls : am_L} {st : List Value} {σ : am_H} {Q : Option Value → am_H → Prop} {a : Nat} : ax k_A_sale 36 ls (.ref a :: st) σ Q = ax_f (am_fld σ a 10 8) (fun v => ax k_A_sale 39 ls (v :: st) σ Q) := ru_getf f_A_sale_36 rfl
theorem f_A_sale_39 : am_cd k_A_sale 39 = some ((some .int), .invokevirtual 207, (14, 0, 778, 0, 2, .null)) := rfl
theorem s_A_sale_39 {ls : am_L} {st : List Value} {σ : am_H} {Q : Option Value → am_H → Prop} {b : Nat} (hi : am_is σ b 2) (h8 : am_s8 st) : ax k_A_sale 39 ls (.ref b :: st) σ Q = ax k_Ledger_hasRoom 0 [some (.ref b)] [] σ (ax_k k_A_sale 42 ls st Q) := ru_vir (M' := rk_Ledger_hasRoom) f_A_sale_39 rfl rfl rfl rfl hi h8 rfl rfl rfl rfl rfl
theorem f_A_sale_42 : am_cd k_A_sale 42 = some ((some .int), .ifCond .eq 17, (59, 0, 0, 0, 0, .null)) := rfl
theorem s_A_sale_42 {ls : am_L} {st : List Value} {σ : am_H} {Q : Option Value → am_H → Prop} {x : Int32} : ax k_A_sale 42 ls (.int x :: st) σ Q = (if x = 0 then ax k_A_sale 59 ls st σ Q else ax k_A_sale 45 ls st σ Q) := (ru_if f_A_sale_42 rfl).trans (ru_i_eq _ _ _ _)
theorem f_A_sale_45 : am_cd k_A_sale 45 = some ((some .int), .aload_n 0, (0, 0, 0, 0, 0, .null)) := rfl
theorem s_A_sale_45 {a1 a2 a3 a4 a5 a6 a7 a8 : Option Value} {st : List Value} {σ : am_H} {Q : Option Value → am_H → Prop} {x : Nat} : ax k_A_sale 45 [some (.ref x), a1, a2, a3, a4, a5, a6, a7, a8] st σ Q = ax k_A_sale 46 [some (.ref x), a1, a2, a3, a4, a5, a6, a7, a8] (.ref x :: st) σ Q := ru_loc (q := (_, _)) f_A_sale_45 rfl rfl rfl
theorem f_A_sale_46 : am_cd k_A_sale 46 = some ((some .int), .iload_n 1, (0, 0, 0, 0, 0, .null)) := rfl
theorem s_A_sale_46 {a0 a2 a3 a4 a5 a6 a7 a8 : Option Value} {st : List Value} {σ : am_H} {Q : Option Value → am_H → Prop} {x : Int32} : ax k_A_sale 46 [a0, some (.int x), a2, a3, a4, a5, a6, a7, a8] st σ Q = ax k_A_sale 47 [a0, some (.int x), a2, a3, a4, a5, a6, a7, a8] (.int x :: st) σ Q := ru_loc (q := (_, _)) f_A_sale_46 rfl rfl rfl
theorem f_A_sale_47 : am_cd k_A_sale 47 = some ((some .int), .iload_n 2, (0, 0, 0, 0, 0, .null)) := rfl
theorem s_A_sale_47 {a0 a1 a3 a4 a5 a6 a7 a8 : Option Value} {st : List Value} {σ : am_H} {Q : Option Value → am_H → Prop} {x : Int32} : ax k_A_sale 47 [a0, a1, some (.int x), a3, a4, a5, a6, a7, a8] st σ Q = ax k_A_sale 48 [a0, a1, some (.int x), a3, a4, a5, a6, a7, a8] (.int x :: st) σ Q := ru_loc (q := (_, _)) f_A_sale_47 rfl rfl rfl
theorem f_A_sale_48 : am_cd k_A_sale 48 = some ((some .int), .iload_n 3, (0, 0, 0, 0, 0, .null)) := rfl
theorem s_A_sale_48 {a0 a1 a2 a4 a5 a6 a7 a8 : Option Value} {st : List Value} {σ : am_H} {Q : Option Value → am_H → Prop} {x : Int32} : ax k_A_sale 48 [a0, a1, a2, some (.int x), a4, a5, a6, a7, a8] st σ Q = ax k_A_sale 49 [a0, a1, a2, some (.int x), a4, a5, a6, a7, a8] (.int x :: st) σ Q := ru_loc (q := (_, _)) f_A_sale_48 rfl rfl rfl
theorem f_A_sale_49 : am_cd k_A_sale 49 = some ((some .int), .iload 4, (0, 0, 0, 0, 0, .null)) := rfl
theorem s_A_sale_49 {a0 a1 a2 a3 a5 a6 a7 a8 : Option Value} {st : List Value} {σ : am_H} {Q : Option Value → am_H → Prop} {x : Int32} : ax k_A_sale 49 [a0, a1, a2, a3, some (.int x), a5, a6, a7, a8] st σ Q = ax k_A_sale 51 [a0, a1, a2, a3, some (.int x), a5, a6, a7, a8] (.int x :: st) σ Q := ru_loc (q := (_, _)) f_A_sale_49 rfl rfl rfl
theorem f_A_sale_51 : am_cd k_A_sale 51 = some ((some .int), .iload 5, (0, 0, 0, 0, 0, .null)) := rfl
theorem s_A_sale_51 {a0 a1 a2 a3 a4 a6 a7 a8 : Option Value} {st : List Value} {σ : am_H} {Q : Option Value → am_H → Prop} {x : Int32} : ax k_A_sale 51 [a0, a1, a2, a3, a4, some (.int x), a6, a7, a8] st σ Q = ax k_A_sale 53 [a0, a1, a2, a3, a4, some (.int x), a6, a7, a8] (.int x :: st) σ Q := ru_loc (q := (_, _)) f_A_sale_51 rfl rfl rfl
theorem f_A_sale_53 : am_cd k_A_sale 53 = some ((some .int), .invokevirtual 200, (89, 5, 769, 0, 10, .null)) := rfl
theorem s_A_sale_53 {ls : am_L} {st : List Value} {σ : am_H} {Q : Option Value → am_H → Prop} {p0 : Int32} {p1 : Int32} {p2 : Int32} {p3 : Int32} {p4 : Int32} {b : Nat} (hi : am_is σ b 10) (h8 : am_s8 st) : ax k_A_sale 53 ls (.int p4 :: .int p3 :: .int p2 :: .int p1 :: .int p0 :: .ref b :: st) σ Q = ax k_A_why 0 [some (.ref b), some (.int p0), some (.int p1), some (.int p2), some (.int p3), some (.int p4), none] [] σ (ax_k k_A_sale 56 ls st Q) := ru_vir (M' := rk_A_why) f_A_sale_53 rfl rfl rfl rfl hi h8 rfl rfl rfl rfl rfl
theorem f_A_sale_56 : am_cd k_A_sale 56 = some ((some .int), .ifCond .eq 5, (61, 0, 0, 0, 0, .null)) := rfl
theorem s_A_sale_56 {ls : am_L} {st : List Value} {σ : am_H} {Q : Option Value → am_H → Prop} {x : Int32} : ax k_A_sale 56 ls (.int x :: st) σ Q = (if x = 0 then ax k_A_sale 61 ls st σ Q else ax k_A_sale 59 ls st σ Q) := (ru_if f_A_sale_56 rfl).trans (ru_i_eq _ _ _ _)
theorem f_A_sale_59 : am_cd k_A_sale 59 = some ((some .int), .iconst (-1), (0, 0, 0, 0, 0, .null)) := rfl
theorem s_A_sale_59 {ls : am_L} {st : List Value} {σ : am_H} {Q : Option Value → am_H → Prop} : ax k_A_sale 59 ls st σ Q = ax k_A_sale 60 ls (.int (-1) :: st) σ Q := ru_iconst f_A_sale_59 (by decide +kernel) rfl
theorem f_A_sale_60 : am_cd k_A_sale 60 = some ((some .int), .ireturn, (0, 0, 0, 0, 0, .null)) := rfl
theorem s_A_sale_60 {ls : am_L} {σ : am_H} {Q : Option Value → am_H → Prop} {v : Int32} : ax k_A_sale 60 ls [.int v] σ Q = Q (some (.int v)) σ := ru_iretI f_A_sale_60
theorem f_A_sale_61 : am_cd k_A_sale 61 = some ((some .int), .new 210, (5, 13, 782, 0, 0, .null)) := rfl
theorem s_A_sale_61 {ls : am_L} {st : List Value} {σ : am_H} {Q : Option Value → am_H → Prop} : ax k_A_sale 61 ls st σ Q = (σ.1 < am_top ∧ ax k_A_sale 64 ls (.ref σ.1 :: st) (am_new σ 13 (am_ob 5 [.int 0, .int 0, .int 0, .int 0, .int 0, .int 0, .int 0, .int 0, .int 0, .int 0, .int 0, .int 0, .int 0])) Q) := ru_new f_A_sale_61 rfl rfl
theorem f_A_sale_64 : am_cd k_A_sale 64 = some ((some .int), .dup, (0, 0, 0, 0, 0, .null)) := rfl
theorem s_A_sale_64 {ls : am_L} {st : List Value} {σ : am_H} {Q : Option Value → am_H → Prop} {a : Nat} : ax k_A_sale 64 ls (.ref a :: st) σ Q = ax k_A_sale 65 ls (.ref a :: .ref a :: st) σ Q := ru_pure f_A_sale_64 rfl rfl
theorem f_A_sale_65 : am_cd k_A_sale 65 = some ((some .int), .iload_n 1, (0, 0, 0, 0, 0, .null)) := rfl
theorem s_A_sale_65 {a0 a2 a3 a4 a5 a6 a7 a8 : Option Value} {st : List Value} {σ : am_H} {Q : Option Value → am_H → Prop} {x : Int32} : ax k_A_sale 65 [a0, some (.int x), a2, a3, a4, a5, a6, a7, a8] st σ Q = ax k_A_sale 66 [a0, some (.int x), a2, a3, a4, a5, a6, a7, a8] (.int x :: st) σ Q := ru_loc (q := (_, _)) f_A_sale_65 rfl rfl rfl
theorem f_A_sale_66 : am_cd k_A_sale 66 = some ((some .int), .iload_n 2, (0, 0, 0, 0, 0, .null)) := rfl
theorem s_A_sale_66 {a0 a1 a3 a4 a5 a6 a7 a8 : Option Value} {st : List Value} {σ : am_H} {Q : Option Value → am_H → Prop} {x : Int32} : ax k_A_sale 66 [a0, a1, some (.int x), a3, a4, a5, a6, a7, a8] st σ Q = ax k_A_sale 67 [a0, a1, some (.int x), a3, a4, a5, a6, a7, a8] (.int x :: st) σ Q := ru_loc (q := (_, _)) f_A_sale_66 rfl rfl rfl
theorem f_A_sale_67 : am_cd k_A_sale 67 = some ((some .int), .iload_n 3, (0, 0, 0, 0, 0, .null)) := rfl
theorem s_A_sale_67 {a0 a1 a2 a4 a5 a6 a7 a8 : Option Value} {st : List Value} {σ : am_H} {Q : Option Value → am_H → Prop} {x : Int32} : ax k_A_sale 67 [a0, a1, a2, some (.int x), a4, a5, a6, a7, a8] st σ Q = ax k_A_sale 68 [a0, a1, a2, some (.int x), a4, a5, a6, a7, a8] (.int x :: st) σ Q := ru_loc (q := (_, _)) f_A_sale_67 rfl rfl rfl
theorem f_A_sale_68 : am_cd k_A_sale 68 = some ((some .int), .iload 4, (0, 0, 0, 0, 0, .null)) := rfl
theorem s_A_sale_68 {a0 a1 a2 a3 a5 a6 a7 a8 : Option Value} {st : List Value} {σ : am_H} {Q : Option Value → am_H → Prop} {x : Int32} : ax k_A_sale 68 [a0, a1, a2, a3, some (.int x), a5, a6, a7, a8] st σ Q = ax k_A_sale 70 [a0, a1, a2, a3, some (.int x), a5, a6, a7, a8] (.int x :: st) σ Q := ru_loc (q := (_, _)) f_A_sale_68 rfl rfl rfl
theorem f_A_sale_70 : am_cd k_A_sale 70 = some ((some .int), .aload_n 0, (0, 0, 0, 0, 0, .null)) := rfl
theorem s_A_sale_70 {a1 a2 a3 a4 a5 a6 a7 a8 : Option Value} {st : List Value} {σ : am_H} {Q : Option Value → am_H → Prop} {x : Nat} : ax k_A_sale 70 [some (.ref x), a1, a2, a3, a4, a5, a6, a7, a8] st σ Q = ax k_A_sale 71 [some (.ref x), a1, a2, a3, a4, a5, a6, a7, a8] (.ref x :: st) σ Q := ru_loc (q := (_, _)) f_A_sale_70 rfl rfl rfl
theorem f_A_sale_71 : am_cd k_A_sale 71 = some ((some .int), .getfield 82, (10, 11, 291, 0, 0, .null)) := rfl
theorem s_A_sale_71 {ls : am_L} {st : List Value} {σ : am_H} {Q : Option Value → am_H → Prop} {a : Nat} : ax k_A_sale 71 ls (.ref a :: st) σ Q = ax_f (am_fld σ a 10 11) (fun v => ax k_A_sale 74 ls (v :: st) σ Q) := ru_getf f_A_sale_71 rfl
theorem f_A_sale_74 : am_cd k_A_sale 74 = some ((some .int), .iload 6, (0, 0, 0, 0, 0, .null)) := rfl
theorem s_A_sale_74 {a0 a1 a2 a3 a4 a5 a7 a8 : Option Value} {st : List Value} {σ : am_H} {Q : Option Value → am_H → Prop} {x : Int32} : ax k_A_sale 74 [a0, a1, a2, a3, a4, a5, some (.int x), a7, a8] st σ Q = ax k_A_sale 76 [a0, a1, a2, a3, a4, a5, some (.int x), a7, a8] (.int x :: st) σ Q := ru_loc (q := (_, _)) f_A_sale_74 rfl rfl rfl
theorem f_A_sale_76 : am_cd k_A_sale 76 = some ((some .int), .invokespecial 212, (48, 6, 784, 0, 5, .null)) := rfl
theorem s_A_sale_76 {ls : am_L} {st : List Value} {σ : am_H} {Q : Option Value → am_H → Prop} {p0 : Int32} {p1 : Int32} {p2 : Int32} {p3 : Int32} {p4 : Int32} {p5 : Int32} {b : Nat} (h8 : am_s8 st) : ax k_A_sale 76 ls (.int p5 :: .int p4 :: .int p3 :: .int p2 :: .int p1 :: .int p0 :: .ref b :: st) σ Q = ax k_Sale_init 0 [some (.ref b), some (.int p0), some (.int p1), some (.int p2), some (.int p3), some (.int p4), some (.int p5)] [] σ (ax_k k_A_sale 79 ls st Q) := ru_spc (M' := rk_Sale_init) f_A_sale_76 rfl (by decide) rfl rfl h8 rfl rfl rfl rfl rfl
theorem f_A_sale_79 : am_cd k_A_sale 79 = some ((some .int), .astore 8, (0, 0, 0, 0, 0, .null)) := rfl
theorem s_A_sale_79 {a0 a1 a2 a3 a4 a5 a6 a7 a8 : Option Value} {st : List Value} {σ : am_H} {Q : Option Value → am_H → Prop} {x : Nat} (hc : am_c2 a7 = false) : ax k_A_sale 79 [a0, a1, a2, a3, a4, a5, a6, a7, a8] (.ref x :: st) σ Q = ax k_A_sale 81 [a0, a1, a2, a3, a4, a5, a6, a7, some (.ref x)] st σ Q := ru_astore f_A_sale_79 (Nat.le_of_ble_eq_true rfl) (ru_st1 (Nat.le_of_ble_eq_true rfl) (am_clr_c2 hc rfl) rfl) rfl
theorem s_A_sale_79n {a0 a1 a2 a3 a4 a5 a6 a7 a8 : Option Value} {st : List Value} {σ : am_H} {Q : Option Value → am_H → Prop} (hc : am_c2 a7 = false) : ax k_A_sale 79 [a0, a1, a2, a3, a4, a5, a6, a7, a8] (.null :: st) σ Q = ax k_A_sale 81 [a0, a1, a2, a3, a4, a5, a6, a7, some (.null)] st σ Q := ru_astoreN f_A_sale_79 (Nat.le_of_ble_eq_true rfl) (ru_st1 (Nat.le_of_ble_eq_true rfl) (am_clr_c2 hc rfl) rfl) rfl
theorem f_A_sale_81 : am_cd k_A_sale 81 = some ((some .int), .aload_n 0, (0, 0, 0, 0, 0, .null)) := rfl
theorem s_A_sale_81 {a1 a2 a3 a4 a5 a6 a7 a8 : Option Value} {st : List Value} {σ : am_H} {Q : Option Value → am_H → Prop} {x : Nat} : ax k_A_sale 81 [some (.ref x), a1, a2, a3, a4, a5, a6, a7, a8] st σ Q = ax k_A_sale 82 [some (.ref x), a1, a2, a3, a4, a5, a6, a7, a8] (.ref x :: st) σ Q := ru_loc (q := (_, _)) f_A_sale_81 rfl rfl rfl
theorem f_A_sale_82 : am_cd k_A_sale 82 = some ((some .int), .aload 8, (0, 0, 0, 0, 0, .null)) := rfl
theorem s_A_sale_82 {a0 a1 a2 a3 a4 a5 a6 a7 : Option Value} {st : List Value} {σ : am_H} {Q : Option Value → am_H → Prop} {x : Nat} : ax k_A_sale 82 [a0, a1, a2, a3, a4, a5, a6, a7, some (.ref x)] st σ Q = ax k_A_sale 84 [a0, a1, a2, a3, a4, a5, a6, a7, some (.ref x)] (.ref x :: st) σ Q := ru_loc (q := (_, _)) f_A_sale_82 rfl rfl rfl
theorem s_A_sale_82n {a0 a1 a2 a3 a4 a5 a6 a7 : Option Value} {st : List Value} {σ : am_H} {Q : Option Value → am_H → Prop} : ax k_A_sale 82 [a0, a1, a2, a3, a4, a5, a6, a7, some .null] st σ Q = ax k_A_sale 84 [a0, a1, a2, a3, a4, a5, a6, a7, some .null] (.null :: st) σ Q := ru_loc (q := (_, _)) f_A_sale_82 rfl rfl rfl
theorem f_A_sale_84 : am_cd k_A_sale 84 = some ((some .int), .invokevirtual 215, (111, 1, 848, 0, 10, .null)) := rfl
theorem s_A_sale_84 {ls : am_L} {st : List Value} {σ : am_H} {Q : Option Value → am_H → Prop} {p0 : Nat} {b : Nat} (hi : am_is σ b 10) (h8 : am_s8 st) : ax k_A_sale 84 ls (.ref p0 :: .ref b :: st) σ Q = ax k_A_split 0 [some (.ref b), some (.ref p0), none, none, none, none, none, none] [] σ (ax_k k_A_sale 87 ls st Q) := ru_vir (M' := rk_A_split) f_A_sale_84 rfl rfl rfl rfl hi h8 rfl rfl rfl rfl rfl
theorem f_A_sale_87 : am_cd k_A_sale 87 = some ((some .int), .aload_n 0, (0, 0, 0, 0, 0, .null)) := rfl
theorem s_A_sale_87 {a1 a2 a3 a4 a5 a6 a7 a8 : Option Value} {st : List Value} {σ : am_H} {Q : Option Value → am_H → Prop} {x : Nat} : ax k_A_sale 87 [some (.ref x), a1, a2, a3, a4, a5, a6, a7, a8] st σ Q = ax k_A_sale 88 [some (.ref x), a1, a2, a3, a4, a5, a6, a7, a8] (.ref x :: st) σ Q := ru_loc (q := (_, _)) f_A_sale_87 rfl rfl rfl
theorem f_A_sale_88 : am_cd k_A_sale 88 = some ((some .int), .getfield 64, (10, 8, 288, 0, 3, .null)) := rfl
theorem s_A_sale_88 {ls : am_L} {st : List Value} {σ : am_H} {Q : Option Value → am_H → Prop} {a : Nat} : ax k_A_sale 88 ls (.ref a :: st) σ Q = ax_f (am_fld σ a 10 8) (fun v => ax k_A_sale 91 ls (v :: st) σ Q) := ru_getf f_A_sale_88 rfl
theorem f_A_sale_91 : am_cd k_A_sale 91 = some ((some .int), .aload 8, (0, 0, 0, 0, 0, .null)) := rfl
theorem s_A_sale_91 {a0 a1 a2 a3 a4 a5 a6 a7 : Option Value} {st : List Value} {σ : am_H} {Q : Option Value → am_H → Prop} {x : Nat} : ax k_A_sale 91 [a0, a1, a2, a3, a4, a5, a6, a7, some (.ref x)] st σ Q = ax k_A_sale 93 [a0, a1, a2, a3, a4, a5, a6, a7, some (.ref x)] (.ref x :: st) σ Q := ru_loc (q := (_, _)) f_A_sale_91 rfl rfl rfl
theorem s_A_sale_91n {a0 a1 a2 a3 a4 a5 a6 a7 : Option Value} {st : List Value} {σ : am_H} {Q : Option Value → am_H → Prop} : ax k_A_sale 91 [a0, a1, a2, a3, a4, a5, a6, a7, some .null] st σ Q = ax k_A_sale 93 [a0, a1, a2, a3, a4, a5, a6, a7, some .null] (.null :: st) σ Q := ru_loc (q := (_, _)) f_A_sale_91 rfl rfl rfl
theorem f_A_sale_93 : am_cd k_A_sale 93 = some ((some .int), .invokevirtual 219, (15, 1, 857, 0, 2, .null)) := rfl
theorem s_A_sale_93 {ls : am_L} {st : List Value} {σ : am_H} {Q : Option Value → am_H → Prop} {p0 : Nat} {b : Nat} (hi : am_is σ b 2) (h8 : am_s8 st) : ax k_A_sale 93 ls (.ref p0 :: .ref b :: st) σ Q = ax k_Ledger_add 0 [some (.ref b), some (.ref p0)] [] σ (ax_k k_A_sale 96 ls st Q) := ru_vir (M' := rk_Ledger_add) f_A_sale_93 rfl rfl rfl rfl hi h8 rfl rfl rfl rfl rfl
theorem f_A_sale_96 : am_cd k_A_sale 96 = some ((some .int), .ireturn, (0, 0, 0, 0, 0, .null)) := rfl
theorem s_A_sale_96 {ls : am_L} {σ : am_H} {Q : Option Value → am_H → Prop} {v : Int32} : ax k_A_sale 96 ls [.int v] σ Q = Q (some (.int v)) σ := ru_iretI f_A_sale_96
theorem f_A_strike_0 : am_cd k_A_strike 0 = some ((some .boolean), .aload_n 0, (0, 0, 0, 0, 0, .null)) := rfl
theorem s_A_strike_0 {a1 a2 : Option Value} {st : List Value} {σ : am_H} {Q : Option Value → am_H → Prop} {x : Nat} : ax k_A_strike 0 [some (.ref x), a1, a2] st σ Q = ax k_A_strike 1 [some (.ref x), a1, a2] (.ref x :: st) σ Q := ru_loc (q := (_, _)) f_A_strike_0 rfl rfl rfl
theorem f_A_strike_1 : am_cd k_A_strike 1 = some ((some .boolean), .getfield 64, (10, 8, 288, 0, 3, .null)) := rfl
theorem s_A_strike_1 {ls : am_L} {st : List Value} {σ : am_H} {Q : Option Value → am_H → Prop} {a : Nat} : ax k_A_strike 1 ls (.ref a :: st) σ Q = ax_f (am_fld σ a 10 8) (fun v => ax k_A_strike 4 ls (v :: st) σ Q) := ru_getf f_A_strike_1 rfl
theorem f_A_strike_4 : am_cd k_A_strike 4 = some ((some .boolean), .iload_n 1, (0, 0, 0, 0, 0, .null)) := rfl
theorem s_A_strike_4 {a0 a2 : Option Value} {st : List Value} {σ : am_H} {Q : Option Value → am_H → Prop} {x : Int32} : ax k_A_strike 4 [a0, some (.int x), a2] st σ Q = ax k_A_strike 5 [a0, some (.int x), a2] (.int x :: st) σ Q := ru_loc (q := (_, _)) f_A_strike_4 rfl rfl rfl
theorem f_A_strike_5 : am_cd k_A_strike 5 = some ((some .boolean), .invokevirtual 222, (16, 1, 866, 0, 2, .null)) := rfl
theorem s_A_strike_5 {ls : am_L} {st : List Value} {σ : am_H} {Q : Option Value → am_H → Prop} {p0 : Int32} {b : Nat} (hi : am_is σ b 2) (h8 : am_s8 st) : ax k_A_strike 5 ls (.int p0 :: .ref b :: st) σ Q = ax k_Ledger_saleAt 0 [some (.ref b), some (.int p0)] [] σ (ax_k k_A_strike 8 ls st Q) := ru_vir (M' := rk_Ledger_saleAt) f_A_strike_5 rfl rfl rfl rfl hi h8 rfl rfl rfl rfl rfl
theorem f_A_strike_8 : am_cd k_A_strike 8 = some ((some .boolean), .astore_n 2, (0, 0, 0, 0, 0, .null)) := rfl
theorem s_A_strike_8 {a0 a1 a2 : Option Value} {st : List Value} {σ : am_H} {Q : Option Value → am_H → Prop} {x : Nat} (hc : am_c2 a1 = false) : ax k_A_strike 8 [a0, a1, a2] (.ref x :: st) σ Q = ax k_A_strike 9 [a0, a1, some (.ref x)] st σ Q := ru_astore_n f_A_strike_8 (Nat.le_of_ble_eq_true rfl) (ru_st1 (Nat.le_of_ble_eq_true rfl) (am_clr_c2 hc rfl) rfl) rfl
theorem s_A_strike_8n {a0 a1 a2 : Option Value} {st : List Value} {σ : am_H} {Q : Option Value → am_H → Prop} (hc : am_c2 a1 = false) : ax k_A_strike 8 [a0, a1, a2] (.null :: st) σ Q = ax k_A_strike 9 [a0, a1, some (.null)] st σ Q := ru_astore_nN f_A_strike_8 (Nat.le_of_ble_eq_true rfl) (ru_st1 (Nat.le_of_ble_eq_true rfl) (am_clr_c2 hc rfl) rfl) rfl
theorem f_A_strike_9 : am_cd k_A_strike 9 = some ((some .boolean), .aload_n 2, (0, 0, 0, 0, 0, .null)) := rfl
theorem s_A_strike_9 {a0 a1 : Option Value} {st : List Value} {σ : am_H} {Q : Option Value → am_H → Prop} {x : Nat} : ax k_A_strike 9 [a0, a1, some (.ref x)] st σ Q = ax k_A_strike 10 [a0, a1, some (.ref x)] (.ref x :: st) σ Q := ru_loc (q := (_, _)) f_A_strike_9 rfl rfl rfl
theorem s_A_strike_9n {a0 a1 : Option Value} {st : List Value} {σ : am_H} {Q : Option Value → am_H → Prop} : ax k_A_strike 9 [a0, a1, some .null] st σ Q = ax k_A_strike 10 [a0, a1, some .null] (.null :: st) σ Q := ru_loc (q := (_, _)) f_A_strike_9 rfl rfl rfl
theorem f_A_strike_10 : am_cd k_A_strike 10 = some ((some .boolean), .ifnull 10, (20, 0, 0, 0, 0, .null)) := rfl
theorem s_A_strike_10n {ls : am_L} {st : List Value} {σ : am_H} {Q : Option Value → am_H → Prop} : ax k_A_strike 10 ls (.null :: st) σ Q = ax k_A_strike 20 ls st σ Q := ru_br (q := (_, _)) f_A_strike_10 rfl rfl rfl
theorem s_A_strike_10 {ls : am_L} {st : List Value} {σ : am_H} {Q : Option Value → am_H → Prop} {a : Nat} : ax k_A_strike 10 ls (.ref a :: st) σ Q = ax k_A_strike 13 ls st σ Q := ru_br (q := (_, _)) f_A_strike_10 rfl rfl rfl
theorem f_A_strike_13 : am_cd k_A_strike 13 = some ((some .boolean), .aload_n 2, (0, 0, 0, 0, 0, .null)) := rfl
theorem s_A_strike_13 {a0 a1 : Option Value} {st : List Value} {σ : am_H} {Q : Option Value → am_H → Prop} {x : Nat} : ax k_A_strike 13 [a0, a1, some (.ref x)] st σ Q = ax k_A_strike 14 [a0, a1, some (.ref x)] (.ref x :: st) σ Q := ru_loc (q := (_, _)) f_A_strike_13 rfl rfl rfl
theorem s_A_strike_13n {a0 a1 : Option Value} {st : List Value} {σ : am_H} {Q : Option Value → am_H → Prop} : ax k_A_strike 13 [a0, a1, some .null] st σ Q = ax k_A_strike 14 [a0, a1, some .null] (.null :: st) σ Q := ru_loc (q := (_, _)) f_A_strike_13 rfl rfl rfl
theorem f_A_strike_14 : am_cd k_A_strike 14 = some ((some .boolean), .getfield 226, (5, 11, 54, 1, 2, .null)) := rfl
theorem s_A_strike_14 {ls : am_L} {st : List Value} {σ : am_H} {Q : Option Value → am_H → Prop} {a : Nat} : ax k_A_strike 14 ls (.ref a :: st) σ Q = ax_f (am_fld σ a 5 11) (fun v => ax k_A_strike 17 ls (v :: st) σ Q) := ru_getf f_A_strike_14 rfl
theorem f_A_strike_17 : am_cd k_A_strike 17 = some ((some .boolean), .ifCond .eq 5, (22, 0, 0, 0, 0, .null)) := rfl
theorem s_A_strike_17 {ls : am_L} {st : List Value} {σ : am_H} {Q : Option Value → am_H → Prop} {x : Int32} : ax k_A_strike 17 ls (.int x :: st) σ Q = (if x = 0 then ax k_A_strike 22 ls st σ Q else ax k_A_strike 20 ls st σ Q) := (ru_if f_A_strike_17 rfl).trans (ru_i_eq _ _ _ _)
theorem f_A_strike_20 : am_cd k_A_strike 20 = some ((some .boolean), .iconst 0, (0, 0, 0, 0, 0, .null)) := rfl
theorem s_A_strike_20 {ls : am_L} {st : List Value} {σ : am_H} {Q : Option Value → am_H → Prop} : ax k_A_strike 20 ls st σ Q = ax k_A_strike 21 ls (.int 0 :: st) σ Q := ru_iconst f_A_strike_20 (by decide +kernel) rfl
theorem f_A_strike_21 : am_cd k_A_strike 21 = some ((some .boolean), .ireturn, (0, 0, 0, 0, 0, .null)) := rfl
theorem s_A_strike_21 {ls : am_L} {σ : am_H} {Q : Option Value → am_H → Prop} {v : Int32} : ax k_A_strike 21 ls ([.int v]) σ Q = (am_nar .boolean v = true ∧ Q (some (.int v)) σ) := ru_iret f_A_strike_21
theorem f_A_strike_22 : am_cd k_A_strike 22 = some ((some .boolean), .aload_n 2, (0, 0, 0, 0, 0, .null)) := rfl
theorem s_A_strike_22 {a0 a1 : Option Value} {st : List Value} {σ : am_H} {Q : Option Value → am_H → Prop} {x : Nat} : ax k_A_strike 22 [a0, a1, some (.ref x)] st σ Q = ax k_A_strike 23 [a0, a1, some (.ref x)] (.ref x :: st) σ Q := ru_loc (q := (_, _)) f_A_strike_22 rfl rfl rfl
theorem s_A_strike_22n {a0 a1 : Option Value} {st : List Value} {σ : am_H} {Q : Option Value → am_H → Prop} : ax k_A_strike 22 [a0, a1, some .null] st σ Q = ax k_A_strike 23 [a0, a1, some .null] (.null :: st) σ Q := ru_loc (q := (_, _)) f_A_strike_22 rfl rfl rfl
theorem f_A_strike_23 : am_cd k_A_strike 23 = some ((some .boolean), .iconst 1, (0, 0, 0, 0, 0, .null)) := rfl
theorem s_A_strike_23 {ls : am_L} {st : List Value} {σ : am_H} {Q : Option Value → am_H → Prop} : ax k_A_strike 23 ls st σ Q = ax k_A_strike 24 ls (.int 1 :: st) σ Q := ru_iconst f_A_strike_23 (by decide +kernel) rfl
theorem f_A_strike_24 : am_cd k_A_strike 24 = some ((some .boolean), .putfield 226, (5, 11, 54, 1, 2, .null)) := rfl
theorem s_A_strike_24 {ls : am_L} {st : List Value} {σ : am_H} {Q : Option Value → am_H → Prop} {a : Nat} {v : Value} : ax k_A_strike 24 ls (v :: .ref a :: st) σ Q = ax_f (am_fld σ a 5 11) (fun _ => a < am_top ∧ am_okv 2 v = true ∧ ax k_A_strike 27 ls st (am_put σ a 11 v) Q) := ru_putf f_A_strike_24 rfl
theorem f_A_strike_27 : am_cd k_A_strike 27 = some ((some .boolean), .iconst 1, (0, 0, 0, 0, 0, .null)) := rfl
theorem s_A_strike_27 {ls : am_L} {st : List Value} {σ : am_H} {Q : Option Value → am_H → Prop} : ax k_A_strike 27 ls st σ Q = ax k_A_strike 28 ls (.int 1 :: st) σ Q := ru_iconst f_A_strike_27 (by decide +kernel) rfl
theorem f_A_strike_28 : am_cd k_A_strike 28 = some ((some .boolean), .ireturn, (0, 0, 0, 0, 0, .null)) := rfl
theorem s_A_strike_28 {ls : am_L} {σ : am_H} {Q : Option Value → am_H → Prop} {v : Int32} : ax k_A_strike 28 ls ([.int v]) σ Q = (am_nar .boolean v = true ∧ Q (some (.int v)) σ) := ru_iret f_A_strike_28
theorem f_A_saleOf_0 : am_cd k_A_saleOf 0 = some ((some .int), .aload_n 0, (0, 0, 0, 0, 0, .null)) := rfl
theorem s_A_saleOf_0 {a1 a2 a3 : Option Value} {st : List Value} {σ : am_H} {Q : Option Value → am_H → Prop} {x : Nat} : ax k_A_saleOf 0 [some (.ref x), a1, a2, a3] st σ Q = ax k_A_saleOf 1 [some (.ref x), a1, a2, a3] (.ref x :: st) σ Q := ru_loc (q := (_, _)) f_A_saleOf_0 rfl rfl rfl
theorem f_A_saleOf_1 : am_cd k_A_saleOf 1 = some ((some .int), .getfield 64, (10, 8, 288, 0, 3, .null)) := rfl
theorem s_A_saleOf_1 {ls : am_L} {st : List Value} {σ : am_H} {Q : Option Value → am_H → Prop} {a : Nat} : ax k_A_saleOf 1 ls (.ref a :: st) σ Q = ax_f (am_fld σ a 10 8) (fun v => ax k_A_saleOf 4 ls (v :: st) σ Q) := ru_getf f_A_saleOf_1 rfl
theorem f_A_saleOf_4 : am_cd k_A_saleOf 4 = some ((some .int), .iload_n 1, (0, 0, 0, 0, 0, .null)) := rfl
theorem s_A_saleOf_4 {a0 a2 a3 : Option Value} {st : List Value} {σ : am_H} {Q : Option Value → am_H → Prop} {x : Int32} : ax k_A_saleOf 4 [a0, some (.int x), a2, a3] st σ Q = ax k_A_saleOf 5 [a0, some (.int x), a2, a3] (.int x :: st) σ Q := ru_loc (q := (_, _)) f_A_saleOf_4 rfl rfl rfl
theorem f_A_saleOf_5 : am_cd k_A_saleOf 5 = some ((some .int), .invokevirtual 222, (16, 1, 866, 0, 2, .null)) := rfl
theorem s_A_saleOf_5 {ls : am_L} {st : List Value} {σ : am_H} {Q : Option Value → am_H → Prop} {p0 : Int32} {b : Nat} (hi : am_is σ b 2) (h8 : am_s8 st) : ax k_A_saleOf 5 ls (.int p0 :: .ref b :: st) σ Q = ax k_Ledger_saleAt 0 [some (.ref b), some (.int p0)] [] σ (ax_k k_A_saleOf 8 ls st Q) := ru_vir (M' := rk_Ledger_saleAt) f_A_saleOf_5 rfl rfl rfl rfl hi h8 rfl rfl rfl rfl rfl
theorem f_A_saleOf_8 : am_cd k_A_saleOf 8 = some ((some .int), .astore_n 3, (0, 0, 0, 0, 0, .null)) := rfl
theorem s_A_saleOf_8 {a0 a1 a2 a3 : Option Value} {st : List Value} {σ : am_H} {Q : Option Value → am_H → Prop} {x : Nat} (hc : am_c2 a2 = false) : ax k_A_saleOf 8 [a0, a1, a2, a3] (.ref x :: st) σ Q = ax k_A_saleOf 9 [a0, a1, a2, some (.ref x)] st σ Q := ru_astore_n f_A_saleOf_8 (Nat.le_of_ble_eq_true rfl) (ru_st1 (Nat.le_of_ble_eq_true rfl) (am_clr_c2 hc rfl) rfl) rfl
theorem s_A_saleOf_8n {a0 a1 a2 a3 : Option Value} {st : List Value} {σ : am_H} {Q : Option Value → am_H → Prop} (hc : am_c2 a2 = false) : ax k_A_saleOf 8 [a0, a1, a2, a3] (.null :: st) σ Q = ax k_A_saleOf 9 [a0, a1, a2, some (.null)] st σ Q := ru_astore_nN f_A_saleOf_8 (Nat.le_of_ble_eq_true rfl) (ru_st1 (Nat.le_of_ble_eq_true rfl) (am_clr_c2 hc rfl) rfl) rfl
theorem f_A_saleOf_9 : am_cd k_A_saleOf 9 = some ((some .int), .aload_n 3, (0, 0, 0, 0, 0, .null)) := rfl
theorem s_A_saleOf_9 {a0 a1 a2 : Option Value} {st : List Value} {σ : am_H} {Q : Option Value → am_H → Prop} {x : Nat} : ax k_A_saleOf 9 [a0, a1, a2, some (.ref x)] st σ Q = ax k_A_saleOf 10 [a0, a1, a2, some (.ref x)] (.ref x :: st) σ Q := ru_loc (q := (_, _)) f_A_saleOf_9 rfl rfl rfl
theorem s_A_saleOf_9n {a0 a1 a2 : Option Value} {st : List Value} {σ : am_H} {Q : Option Value → am_H → Prop} : ax k_A_saleOf 9 [a0, a1, a2, some .null] st σ Q = ax k_A_saleOf 10 [a0, a1, a2, some .null] (.null :: st) σ Q := ru_loc (q := (_, _)) f_A_saleOf_9 rfl rfl rfl
theorem f_A_saleOf_10 : am_cd k_A_saleOf 10 = some ((some .int), .ifnonnull 7, (17, 0, 0, 0, 0, .null)) := rfl
theorem s_A_saleOf_10n {ls : am_L} {st : List Value} {σ : am_H} {Q : Option Value → am_H → Prop} : ax k_A_saleOf 10 ls (.null :: st) σ Q = ax k_A_saleOf 13 ls st σ Q := ru_br (q := (_, _)) f_A_saleOf_10 rfl rfl rfl
theorem s_A_saleOf_10 {ls : am_L} {st : List Value} {σ : am_H} {Q : Option Value → am_H → Prop} {a : Nat} : ax k_A_saleOf 10 ls (.ref a :: st) σ Q = ax k_A_saleOf 17 ls st σ Q := ru_br (q := (_, _)) f_A_saleOf_10 rfl rfl rfl
theorem f_A_saleOf_13 : am_cd k_A_saleOf 13 = some ((some .int), .iconst (-1), (0, 0, 0, 0, 0, .null)) := rfl
theorem s_A_saleOf_13 {ls : am_L} {st : List Value} {σ : am_H} {Q : Option Value → am_H → Prop} : ax k_A_saleOf 13 ls st σ Q = ax k_A_saleOf 14 ls (.int (-1) :: st) σ Q := ru_iconst f_A_saleOf_13 (by decide +kernel) rfl
theorem f_A_saleOf_14 : am_cd k_A_saleOf 14 = some ((some .int), .goto 8, (22, 0, 0, 0, 0, .null)) := rfl
theorem s_A_saleOf_14 {ls : am_L} {st : List Value} {σ : am_H} {Q : Option Value → am_H → Prop} : ax k_A_saleOf 14 ls st σ Q = ax k_A_saleOf 22 ls st σ Q := ru_goto f_A_saleOf_14
theorem f_A_saleOf_17 : am_cd k_A_saleOf 17 = some ((some .int), .aload_n 3, (0, 0, 0, 0, 0, .null)) := rfl
theorem s_A_saleOf_17 {a0 a1 a2 : Option Value} {st : List Value} {σ : am_H} {Q : Option Value → am_H → Prop} {x : Nat} : ax k_A_saleOf 17 [a0, a1, a2, some (.ref x)] st σ Q = ax k_A_saleOf 18 [a0, a1, a2, some (.ref x)] (.ref x :: st) σ Q := ru_loc (q := (_, _)) f_A_saleOf_17 rfl rfl rfl
theorem s_A_saleOf_17n {a0 a1 a2 : Option Value} {st : List Value} {σ : am_H} {Q : Option Value → am_H → Prop} : ax k_A_saleOf 17 [a0, a1, a2, some .null] st σ Q = ax k_A_saleOf 18 [a0, a1, a2, some .null] (.null :: st) σ Q := ru_loc (q := (_, _)) f_A_saleOf_17 rfl rfl rfl
theorem f_A_saleOf_18 : am_cd k_A_saleOf 18 = some ((some .int), .iload_n 2, (0, 0, 0, 0, 0, .null)) := rfl
theorem s_A_saleOf_18 {a0 a1 a3 : Option Value} {st : List Value} {σ : am_H} {Q : Option Value → am_H → Prop} {x : Int32} : ax k_A_saleOf 18 [a0, a1, some (.int x), a3] st σ Q = ax k_A_saleOf 19 [a0, a1, some (.int x), a3] (.int x :: st) σ Q := ru_loc (q := (_, _)) f_A_saleOf_18 rfl rfl rfl
theorem f_A_saleOf_19 : am_cd k_A_saleOf 19 = some ((some .int), .invokevirtual 229, (49, 1, 871, 0, 5, .null)) := rfl
theorem s_A_saleOf_19 {ls : am_L} {st : List Value} {σ : am_H} {Q : Option Value → am_H → Prop} {p0 : Int32} {b : Nat} (hi : am_is σ b 5) (h8 : am_s8 st) : ax k_A_saleOf 19 ls (.int p0 :: .ref b :: st) σ Q = ax k_Sale_tellOf 0 [some (.ref b), some (.int p0)] [] σ (ax_k k_A_saleOf 22 ls st Q) := ru_vir (M' := rk_Sale_tellOf) f_A_saleOf_19 rfl rfl rfl rfl hi h8 rfl rfl rfl rfl rfl
theorem f_A_saleOf_22 : am_cd k_A_saleOf 22 = some ((some .int), .ireturn, (0, 0, 0, 0, 0, .null)) := rfl
theorem s_A_saleOf_22 {ls : am_L} {σ : am_H} {Q : Option Value → am_H → Prop} {v : Int32} : ax k_A_saleOf 22 ls [.int v] σ Q = Q (some (.int v)) σ := ru_iretI f_A_saleOf_22
theorem f_A_got_0 : am_cd k_A_got 0 = some ((some .long), .iload_n 1, (0, 0, 0, 0, 0, .null)) := rfl
theorem s_A_got_0 {a0 : Option Value} {st : List Value} {σ : am_H} {Q : Option Value → am_H → Prop} {x : Int32} : ax k_A_got 0 [a0, some (.int x)] st σ Q = ax k_A_got 1 [a0, some (.int x)] (.int x :: st) σ Q := ru_loc (q := (_, _)) f_A_got_0 rfl rfl rfl
theorem f_A_got_1 : am_cd k_A_got 1 = some ((some .long), .iconst (-1), (0, 0, 0, 0, 0, .null)) := rfl
theorem s_A_got_1 {ls : am_L} {st : List Value} {σ : am_H} {Q : Option Value → am_H → Prop} : ax k_A_got 1 ls st σ Q = ax k_A_got 2 ls (.int (-1) :: st) σ Q := ru_iconst f_A_got_1 (by decide +kernel) rfl
theorem f_A_got_2 : am_cd k_A_got 2 = some ((some .long), .if_icmp .ne 11, (13, 0, 0, 0, 0, .null)) := rfl
theorem s_A_got_2 {ls : am_L} {st : List Value} {σ : am_H} {Q : Option Value → am_H → Prop} {x y : Int32} : ax k_A_got 2 ls (.int y :: .int x :: st) σ Q = (if x = y then ax k_A_got 5 ls st σ Q else ax k_A_got 13 ls st σ Q) := (ru_icmp f_A_got_2 rfl).trans (ru_i_ne _ _ _ _)
theorem f_A_got_5 : am_cd k_A_got 5 = some ((some .long), .aload_n 0, (0, 0, 0, 0, 0, .null)) := rfl
theorem s_A_got_5 {a1 : Option Value} {st : List Value} {σ : am_H} {Q : Option Value → am_H → Prop} {x : Nat} : ax k_A_got 5 [some (.ref x), a1] st σ Q = ax k_A_got 6 [some (.ref x), a1] (.ref x :: st) σ Q := ru_loc (q := (_, _)) f_A_got_5 rfl rfl rfl
theorem f_A_got_6 : am_cd k_A_got 6 = some ((some .long), .getfield 64, (10, 8, 288, 0, 3, .null)) := rfl
theorem s_A_got_6 {ls : am_L} {st : List Value} {σ : am_H} {Q : Option Value → am_H → Prop} {a : Nat} : ax k_A_got 6 ls (.ref a :: st) σ Q = ax_f (am_fld σ a 10 8) (fun v => ax k_A_got 9 ls (v :: st) σ Q) := ru_getf f_A_got_6 rfl
theorem f_A_got_9 : am_cd k_A_got 9 = some ((some .long), .invokevirtual 232, (22, 0, 879, 0, 2, .null)) := rfl
theorem s_A_got_9 {ls : am_L} {st : List Value} {σ : am_H} {Q : Option Value → am_H → Prop} {b : Nat} (hi : am_is σ b 2) (h8 : am_s8 st) : ax k_A_got 9 ls (.ref b :: st) σ Q = ax k_Ledger_gainOfAgency 0 [some (.ref b), none, none, none, none] [] σ (ax_k k_A_got 12 ls st Q) := ru_vir (M' := rk_Ledger_gainOfAgency) f_A_got_9 rfl rfl rfl rfl hi h8 rfl rfl rfl rfl rfl
theorem f_A_got_12 : am_cd k_A_got 12 = some ((some .long), .lreturn, (0, 0, 0, 0, 0, .null)) := rfl
theorem s_A_got_12 {ls : am_L} {σ : am_H} {Q : Option Value → am_H → Prop} {v : Int64} : ax k_A_got 12 ls ([.long v]) σ Q = Q (some (.long v)) σ := ru_ret f_A_got_12 rfl rfl rfl rfl rfl rfl rfl
theorem f_A_got_13 : am_cd k_A_got 13 = some ((some .long), .iload_n 1, (0, 0, 0, 0, 0, .null)) := rfl
theorem s_A_got_13 {a0 : Option Value} {st : List Value} {σ : am_H} {Q : Option Value → am_H → Prop} {x : Int32} : ax k_A_got 13 [a0, some (.int x)] st σ Q = ax k_A_got 14 [a0, some (.int x)] (.int x :: st) σ Q := ru_loc (q := (_, _)) f_A_got_13 rfl rfl rfl
theorem f_A_got_14 : am_cd k_A_got 14 = some ((some .long), .invokestatic 104, (100, 1, 401, 0, 10, .null)) := rfl
theorem s_A_got_14 {ls : am_L} {st : List Value} {σ : am_H} {Q : Option Value → am_H → Prop} {p0 : Int32} (h8 : am_s8 st) : ax k_A_got 14 ls (.int p0 :: st) σ Q = ax k_A_isPerson 0 [some (.int p0)] [] σ (ax_k k_A_got 17 ls st Q) := ru_sta (M' := rk_A_isPerson) f_A_got_14 rfl (by decide) rfl (by simp) rfl h8 rfl rfl rfl rfl rfl
theorem f_A_got_17 : am_cd k_A_got 17 = some ((some .long), .ifCond .eq 14, (31, 0, 0, 0, 0, .null)) := rfl
theorem s_A_got_17 {ls : am_L} {st : List Value} {σ : am_H} {Q : Option Value → am_H → Prop} {x : Int32} : ax k_A_got 17 ls (.int x :: st) σ Q = (if x = 0 then ax k_A_got 31 ls st σ Q else ax k_A_got 20 ls st σ Q) := (ru_if f_A_got_17 rfl).trans (ru_i_eq _ _ _ _)
theorem f_A_got_20 : am_cd k_A_got 20 = some ((some .long), .aload_n 0, (0, 0, 0, 0, 0, .null)) := rfl
theorem s_A_got_20 {a1 : Option Value} {st : List Value} {σ : am_H} {Q : Option Value → am_H → Prop} {x : Nat} : ax k_A_got 20 [some (.ref x), a1] st σ Q = ax k_A_got 21 [some (.ref x), a1] (.ref x :: st) σ Q := ru_loc (q := (_, _)) f_A_got_20 rfl rfl rfl
theorem f_A_got_21 : am_cd k_A_got 21 = some ((some .long), .getfield 64, (10, 8, 288, 0, 3, .null)) := rfl
theorem s_A_got_21 {ls : am_L} {st : List Value} {σ : am_H} {Q : Option Value → am_H → Prop} {a : Nat} : ax k_A_got 21 ls (.ref a :: st) σ Q = ax_f (am_fld σ a 10 8) (fun v => ax k_A_got 24 ls (v :: st) σ Q) := ru_getf f_A_got_21 rfl
theorem f_A_got_24 : am_cd k_A_got 24 = some ((some .long), .iload_n 1, (0, 0, 0, 0, 0, .null)) := rfl
theorem s_A_got_24 {a0 : Option Value} {st : List Value} {σ : am_H} {Q : Option Value → am_H → Prop} {x : Int32} : ax k_A_got 24 [a0, some (.int x)] st σ Q = ax k_A_got 25 [a0, some (.int x)] (.int x :: st) σ Q := ru_loc (q := (_, _)) f_A_got_24 rfl rfl rfl
theorem f_A_got_25 : am_cd k_A_got 25 = some ((some .long), .invokevirtual 236, (21, 1, 883, 0, 2, .null)) := rfl
theorem s_A_got_25 {ls : am_L} {st : List Value} {σ : am_H} {Q : Option Value → am_H → Prop} {p0 : Int32} {b : Nat} (hi : am_is σ b 2) (h8 : am_s8 st) : ax k_A_got 25 ls (.int p0 :: .ref b :: st) σ Q = ax k_Ledger_gainOf 0 [some (.ref b), some (.int p0), none, none, none, none] [] σ (ax_k k_A_got 28 ls st Q) := ru_vir (M' := rk_Ledger_gainOf) f_A_got_25 rfl rfl rfl rfl hi h8 rfl rfl rfl rfl rfl
theorem f_A_got_28 : am_cd k_A_got 28 = some ((some .long), .goto 4, (32, 0, 0, 0, 0, .null)) := rfl
theorem s_A_got_28 {ls : am_L} {st : List Value} {σ : am_H} {Q : Option Value → am_H → Prop} : ax k_A_got 28 ls st σ Q = ax k_A_got 32 ls st σ Q := ru_goto f_A_got_28
theorem f_A_got_31 : am_cd k_A_got 31 = some ((some .long), .lconst 0, (0, 0, 0, 0, 0, .null)) := rfl
theorem s_A_got_31 {ls : am_L} {st : List Value} {σ : am_H} {Q : Option Value → am_H → Prop} : ax k_A_got 31 ls st σ Q = ax k_A_got 32 ls (.long 0 :: st) σ Q := ru_lconst f_A_got_31 (by decide +kernel) rfl
theorem f_A_got_32 : am_cd k_A_got 32 = some ((some .long), .lreturn, (0, 0, 0, 0, 0, .null)) := rfl
theorem s_A_got_32 {ls : am_L} {σ : am_H} {Q : Option Value → am_H → Prop} {v : Int64} : ax k_A_got 32 ls ([.long v]) σ Q = Q (some (.long v)) σ := ru_ret f_A_got_32 rfl rfl rfl rfl rfl rfl rfl
theorem f_A_print_0 : am_cd k_A_print 0 = some ((some .int), .aload_n 0, (0, 0, 0, 0, 0, .null)) := rfl
theorem s_A_print_0 {a1 a2 a3 a4 : Option Value} {st : List Value} {σ : am_H} {Q : Option Value → am_H → Prop} {x : Nat} : ax k_A_print 0 [some (.ref x), a1, a2, a3, a4] st σ Q = ax k_A_print 1 [some (.ref x), a1, a2, a3, a4] (.ref x :: st) σ Q := ru_loc (q := (_, _)) f_A_print_0 rfl rfl rfl
theorem f_A_print_1 : am_cd k_A_print 1 = some ((some .int), .iload_n 1, (0, 0, 0, 0, 0, .null)) := rfl
theorem s_A_print_1 {a0 a2 a3 a4 : Option Value} {st : List Value} {σ : am_H} {Q : Option Value → am_H → Prop} {x : Int32} : ax k_A_print 1 [a0, some (.int x), a2, a3, a4] st σ Q = ax k_A_print 2 [a0, some (.int x), a2, a3, a4] (.int x :: st) σ Q := ru_loc (q := (_, _)) f_A_print_1 rfl rfl rfl
theorem f_A_print_2 : am_cd k_A_print 2 = some ((some .int), .iload_n 2, (0, 0, 0, 0, 0, .null)) := rfl
theorem s_A_print_2 {a0 a1 a3 a4 : Option Value} {st : List Value} {σ : am_H} {Q : Option Value → am_H → Prop} {x : Int32} : ax k_A_print 2 [a0, a1, some (.int x), a3, a4] st σ Q = ax k_A_print 3 [a0, a1, some (.int x), a3, a4] (.int x :: st) σ Q := ru_loc (q := (_, _)) f_A_print_2 rfl rfl rfl
theorem f_A_print_3 : am_cd k_A_print 3 = some ((some .int), .iload_n 3, (0, 0, 0, 0, 0, .null)) := rfl
theorem s_A_print_3 {a0 a1 a2 a4 : Option Value} {st : List Value} {σ : am_H} {Q : Option Value → am_H → Prop} {x : Int32} : ax k_A_print 3 [a0, a1, a2, some (.int x), a4] st σ Q = ax k_A_print 4 [a0, a1, a2, some (.int x), a4] (.int x :: st) σ Q := ru_loc (q := (_, _)) f_A_print_3 rfl rfl rfl
theorem f_A_print_4 : am_cd k_A_print 4 = some ((some .int), .iload 4, (0, 0, 0, 0, 0, .null)) := rfl
theorem s_A_print_4 {a0 a1 a2 a3 : Option Value} {st : List Value} {σ : am_H} {Q : Option Value → am_H → Prop} {x : Int32} : ax k_A_print 4 [a0, a1, a2, a3, some (.int x)] st σ Q = ax k_A_print 6 [a0, a1, a2, a3, some (.int x)] (.int x :: st) σ Q := ru_loc (q := (_, _)) f_A_print_4 rfl rfl rfl
theorem f_A_print_6 : am_cd k_A_print 6 = some ((some .int), .invokevirtual 185, (106, 4, 723, 0, 10, .null)) := rfl
theorem s_A_print_6 {ls : am_L} {st : List Value} {σ : am_H} {Q : Option Value → am_H → Prop} {p0 : Int32} {p1 : Int32} {p2 : Int32} {p3 : Int32} {b : Nat} (hi : am_is σ b 10) (h8 : am_s8 st) : ax k_A_print 6 ls (.int p3 :: .int p2 :: .int p1 :: .int p0 :: .ref b :: st) σ Q = ax k_A_canBeUsed 0 [some (.ref b), some (.int p0), some (.int p1), some (.int p2), some (.int p3)] [] σ (ax_k k_A_print 9 ls st Q) := ru_vir (M' := rk_A_canBeUsed) f_A_print_6 rfl rfl rfl rfl hi h8 rfl rfl rfl rfl rfl
theorem f_A_print_9 : am_cd k_A_print 9 = some ((some .int), .ifCond .eq 15, (24, 0, 0, 0, 0, .null)) := rfl
theorem s_A_print_9 {ls : am_L} {st : List Value} {σ : am_H} {Q : Option Value → am_H → Prop} {x : Int32} : ax k_A_print 9 ls (.int x :: st) σ Q = (if x = 0 then ax k_A_print 24 ls st σ Q else ax k_A_print 12 ls st σ Q) := (ru_if f_A_print_9 rfl).trans (ru_i_eq _ _ _ _)
theorem f_A_print_12 : am_cd k_A_print 12 = some ((some .int), .aload_n 0, (0, 0, 0, 0, 0, .null)) := rfl
theorem s_A_print_12 {a1 a2 a3 a4 : Option Value} {st : List Value} {σ : am_H} {Q : Option Value → am_H → Prop} {x : Nat} : ax k_A_print 12 [some (.ref x), a1, a2, a3, a4] st σ Q = ax k_A_print 13 [some (.ref x), a1, a2, a3, a4] (.ref x :: st) σ Q := ru_loc (q := (_, _)) f_A_print_12 rfl rfl rfl
theorem f_A_print_13 : am_cd k_A_print 13 = some ((some .int), .getfield 64, (10, 8, 288, 0, 3, .null)) := rfl
theorem s_A_print_13 {ls : am_L} {st : List Value} {σ : am_H} {Q : Option Value → am_H → Prop} {a : Nat} : ax k_A_print 13 ls (.ref a :: st) σ Q = ax_f (am_fld σ a 10 8) (fun v => ax k_A_print 16 ls (v :: st) σ Q) := ru_getf f_A_print_13 rfl
theorem f_A_print_16 : am_cd k_A_print 16 = some ((some .int), .getfield 239, (2, 3, 16, 1, 0, .null)) := rfl
theorem s_A_print_16 {ls : am_L} {st : List Value} {σ : am_H} {Q : Option Value → am_H → Prop} {a : Nat} : ax k_A_print 16 ls (.ref a :: st) σ Q = ax_f (am_fld σ a 2 3) (fun v => ax k_A_print 19 ls (v :: st) σ Q) := ru_getf f_A_print_16 rfl
theorem f_A_print_19 : am_cd k_A_print 19 = some ((some .int), .bipush 60, (0, 0, 0, 0, 0, .null)) := rfl
theorem s_A_print_19 {ls : am_L} {st : List Value} {σ : am_H} {Q : Option Value → am_H → Prop} : ax k_A_print 19 ls st σ Q = ax k_A_print 21 ls (.int 60 :: st) σ Q := ru_bipush f_A_print_19 (by decide +kernel) rfl
theorem f_A_print_21 : am_cd k_A_print 21 = some ((some .int), .if_icmp .lt 5, (26, 0, 0, 0, 0, .null)) := rfl
theorem s_A_print_21 {ls : am_L} {st : List Value} {σ : am_H} {Q : Option Value → am_H → Prop} {x y : Int32} : ax k_A_print 21 ls (.int y :: .int x :: st) σ Q = (if x < y then ax k_A_print 26 ls st σ Q else ax k_A_print 24 ls st σ Q) := (ru_icmp f_A_print_21 rfl).trans (ru_i_lt _ _ _ _)
theorem f_A_print_24 : am_cd k_A_print 24 = some ((some .int), .iconst (-1), (0, 0, 0, 0, 0, .null)) := rfl
theorem s_A_print_24 {ls : am_L} {st : List Value} {σ : am_H} {Q : Option Value → am_H → Prop} : ax k_A_print 24 ls st σ Q = ax k_A_print 25 ls (.int (-1) :: st) σ Q := ru_iconst f_A_print_24 (by decide +kernel) rfl
theorem f_A_print_25 : am_cd k_A_print 25 = some ((some .int), .ireturn, (0, 0, 0, 0, 0, .null)) := rfl
theorem s_A_print_25 {ls : am_L} {σ : am_H} {Q : Option Value → am_H → Prop} {v : Int32} : ax k_A_print 25 ls [.int v] σ Q = Q (some (.int v)) σ := ru_iretI f_A_print_25
theorem f_A_print_26 : am_cd k_A_print 26 = some ((some .int), .aload_n 0, (0, 0, 0, 0, 0, .null)) := rfl
theorem s_A_print_26 {a1 a2 a3 a4 : Option Value} {st : List Value} {σ : am_H} {Q : Option Value → am_H → Prop} {x : Nat} : ax k_A_print 26 [some (.ref x), a1, a2, a3, a4] st σ Q = ax k_A_print 27 [some (.ref x), a1, a2, a3, a4] (.ref x :: st) σ Q := ru_loc (q := (_, _)) f_A_print_26 rfl rfl rfl
theorem f_A_print_27 : am_cd k_A_print 27 = some ((some .int), .getfield 64, (10, 8, 288, 0, 3, .null)) := rfl
theorem s_A_print_27 {ls : am_L} {st : List Value} {σ : am_H} {Q : Option Value → am_H → Prop} {a : Nat} : ax k_A_print 27 ls (.ref a :: st) σ Q = ax_f (am_fld σ a 10 8) (fun v => ax k_A_print 30 ls (v :: st) σ Q) := ru_getf f_A_print_27 rfl
theorem f_A_print_30 : am_cd k_A_print 30 = some ((some .int), .aload_n 0, (0, 0, 0, 0, 0, .null)) := rfl
theorem s_A_print_30 {a1 a2 a3 a4 : Option Value} {st : List Value} {σ : am_H} {Q : Option Value → am_H → Prop} {x : Nat} : ax k_A_print 30 [some (.ref x), a1, a2, a3, a4] st σ Q = ax k_A_print 31 [some (.ref x), a1, a2, a3, a4] (.ref x :: st) σ Q := ru_loc (q := (_, _)) f_A_print_30 rfl rfl rfl
theorem f_A_print_31 : am_cd k_A_print 31 = some ((some .int), .getfield 64, (10, 8, 288, 0, 3, .null)) := rfl
theorem s_A_print_31 {ls : am_L} {st : List Value} {σ : am_H} {Q : Option Value → am_H → Prop} {a : Nat} : ax k_A_print 31 ls (.ref a :: st) σ Q = ax_f (am_fld σ a 10 8) (fun v => ax k_A_print 34 ls (v :: st) σ Q) := ru_getf f_A_print_31 rfl
theorem f_A_print_34 : am_cd k_A_print 34 = some ((some .int), .aload_n 0, (0, 0, 0, 0, 0, .null)) := rfl
theorem s_A_print_34 {a1 a2 a3 a4 : Option Value} {st : List Value} {σ : am_H} {Q : Option Value → am_H → Prop} {x : Nat} : ax k_A_print 34 [some (.ref x), a1, a2, a3, a4] st σ Q = ax k_A_print 35 [some (.ref x), a1, a2, a3, a4] (.ref x :: st) σ Q := ru_loc (q := (_, _)) f_A_print_34 rfl rfl rfl
theorem f_A_print_35 : am_cd k_A_print 35 = some ((some .int), .getfield 19, (10, 1, 281, 0, 3, .null)) := rfl
theorem s_A_print_35 {ls : am_L} {st : List Value} {σ : am_H} {Q : Option Value → am_H → Prop} {a : Nat} : ax k_A_print 35 ls (.ref a :: st) σ Q = ax_f (am_fld σ a 10 1) (fun v => ax k_A_print 38 ls (v :: st) σ Q) := ru_getf f_A_print_35 rfl
theorem f_A_print_38 : am_cd k_A_print 38 = some ((some .int), .iload_n 1, (0, 0, 0, 0, 0, .null)) := rfl
theorem s_A_print_38 {a0 a2 a3 a4 : Option Value} {st : List Value} {σ : am_H} {Q : Option Value → am_H → Prop} {x : Int32} : ax k_A_print 38 [a0, some (.int x), a2, a3, a4] st σ Q = ax k_A_print 39 [a0, some (.int x), a2, a3, a4] (.int x :: st) σ Q := ru_loc (q := (_, _)) f_A_print_38 rfl rfl rfl
theorem f_A_print_39 : am_cd k_A_print 39 = some ((some .int), .invokevirtual 140, (6, 1, 489, 0, 0, .null)) := rfl
theorem s_A_print_39 {ls : am_L} {st : List Value} {σ : am_H} {Q : Option Value → am_H → Prop} {p0 : Int32} {b : Nat} (hi : am_is σ b 0) (h8 : am_s8 st) : ax k_A_print 39 ls (.int p0 :: .ref b :: st) σ Q = ax k_Album_setOf 0 [some (.ref b), some (.int p0), none, none, none, none, none] [] σ (ax_k k_A_print 42 ls st Q) := ru_vir (M' := rk_Album_setOf) f_A_print_39 rfl rfl rfl rfl hi h8 rfl rfl rfl rfl rfl
theorem f_A_print_42 : am_cd k_A_print 42 = some ((some .int), .iload_n 2, (0, 0, 0, 0, 0, .null)) := rfl
theorem s_A_print_42 {a0 a1 a3 a4 : Option Value} {st : List Value} {σ : am_H} {Q : Option Value → am_H → Prop} {x : Int32} : ax k_A_print 42 [a0, a1, some (.int x), a3, a4] st σ Q = ax k_A_print 43 [a0, a1, some (.int x), a3, a4] (.int x :: st) σ Q := ru_loc (q := (_, _)) f_A_print_42 rfl rfl rfl
theorem f_A_print_43 : am_cd k_A_print 43 = some ((some .int), .iload_n 3, (0, 0, 0, 0, 0, .null)) := rfl
theorem s_A_print_43 {a0 a1 a2 a4 : Option Value} {st : List Value} {σ : am_H} {Q : Option Value → am_H → Prop} {x : Int32} : ax k_A_print 43 [a0, a1, a2, some (.int x), a4] st σ Q = ax k_A_print 44 [a0, a1, a2, some (.int x), a4] (.int x :: st) σ Q := ru_loc (q := (_, _)) f_A_print_43 rfl rfl rfl
theorem f_A_print_44 : am_cd k_A_print 44 = some ((some .int), .iload 4, (0, 0, 0, 0, 0, .null)) := rfl
theorem s_A_print_44 {a0 a1 a2 a3 : Option Value} {st : List Value} {σ : am_H} {Q : Option Value → am_H → Prop} {x : Int32} : ax k_A_print 44 [a0, a1, a2, a3, some (.int x)] st σ Q = ax k_A_print 46 [a0, a1, a2, a3, some (.int x)] (.int x :: st) σ Q := ru_loc (q := (_, _)) f_A_print_44 rfl rfl rfl
theorem f_A_print_46 : am_cd k_A_print 46 = some ((some .int), .invokevirtual 242, (18, 4, 891, 0, 2, .null)) := rfl
theorem s_A_print_46 {ls : am_L} {st : List Value} {σ : am_H} {Q : Option Value → am_H → Prop} {p0 : Int64} {p1 : Int32} {p2 : Int32} {p3 : Int32} {b : Nat} (hi : am_is σ b 2) (h8 : am_s8 st) : ax k_A_print 46 ls (.int p3 :: .int p2 :: .int p1 :: .long p0 :: .ref b :: st) σ Q = ax k_Ledger_firstFor 0 [some (.ref b), some (.long p0), none, some (.int p1), some (.int p2), some (.int p3), none, none] [] σ (ax_k k_A_print 49 ls st Q) := ru_vir (M' := rk_Ledger_firstFor) f_A_print_46 rfl rfl rfl rfl hi h8 rfl rfl rfl rfl rfl
theorem f_A_print_49 : am_cd k_A_print 49 = some ((some .int), .invokevirtual 246, (19, 1, 895, 0, 2, .null)) := rfl
theorem s_A_print_49 {ls : am_L} {st : List Value} {σ : am_H} {Q : Option Value → am_H → Prop} {p0 : Int32} {b : Nat} (hi : am_is σ b 2) (h8 : am_s8 st) : ax k_A_print 49 ls (.int p0 :: .ref b :: st) σ Q = ax k_Ledger_lead 0 [some (.ref b), some (.int p0), none] [] σ (ax_k k_A_print 52 ls st Q) := ru_vir (M' := rk_Ledger_lead) f_A_print_49 rfl rfl rfl rfl hi h8 rfl rfl rfl rfl rfl
theorem f_A_print_52 : am_cd k_A_print 52 = some ((some .int), .ireturn, (0, 0, 0, 0, 0, .null)) := rfl
theorem s_A_print_52 {ls : am_L} {σ : am_H} {Q : Option Value → am_H → Prop} {v : Int32} : ax k_A_print 52 ls [.int v] σ Q = Q (some (.int v)) σ := ru_iretI f_A_print_52
theorem f_A_printed_0 : am_cd k_A_printed 0 = some ((some .int), .aload_n 0, (0, 0, 0, 0, 0, .null)) := rfl
theorem s_A_printed_0 {a1 : Option Value} {st : List Value} {σ : am_H} {Q : Option Value → am_H → Prop} {x : Nat} : ax k_A_printed 0 [some (.ref x), a1] st σ Q = ax k_A_printed 1 [some (.ref x), a1] (.ref x :: st) σ Q := ru_loc (q := (_, _)) f_A_printed_0 rfl rfl rfl
theorem f_A_printed_1 : am_cd k_A_printed 1 = some ((some .int), .getfield 64, (10, 8, 288, 0, 3, .null)) := rfl
theorem s_A_printed_1 {ls : am_L} {st : List Value} {σ : am_H} {Q : Option Value → am_H → Prop} {a : Nat} : ax k_A_printed 1 ls (.ref a :: st) σ Q = ax_f (am_fld σ a 10 8) (fun v => ax k_A_printed 4 ls (v :: st) σ Q) := ru_getf f_A_printed_1 rfl
theorem f_A_printed_4 : am_cd k_A_printed 4 = some ((some .int), .iload_n 1, (0, 0, 0, 0, 0, .null)) := rfl
theorem s_A_printed_4 {a0 : Option Value} {st : List Value} {σ : am_H} {Q : Option Value → am_H → Prop} {x : Int32} : ax k_A_printed 4 [a0, some (.int x)] st σ Q = ax k_A_printed 5 [a0, some (.int x)] (.int x :: st) σ Q := ru_loc (q := (_, _)) f_A_printed_4 rfl rfl rfl
theorem f_A_printed_5 : am_cd k_A_printed 5 = some ((some .int), .invokevirtual 249, (20, 1, 903, 0, 2, .null)) := rfl
theorem s_A_printed_5 {ls : am_L} {st : List Value} {σ : am_H} {Q : Option Value → am_H → Prop} {p0 : Int32} {b : Nat} (hi : am_is σ b 2) (h8 : am_s8 st) : ax k_A_printed 5 ls (.int p0 :: .ref b :: st) σ Q = ax k_Ledger_ledTo 0 [some (.ref b), some (.int p0)] [] σ (ax_k k_A_printed 8 ls st Q) := ru_vir (M' := rk_Ledger_ledTo) f_A_printed_5 rfl rfl rfl rfl hi h8 rfl rfl rfl rfl rfl
theorem f_A_printed_8 : am_cd k_A_printed 8 = some ((some .int), .ireturn, (0, 0, 0, 0, 0, .null)) := rfl
theorem s_A_printed_8 {ls : am_L} {σ : am_H} {Q : Option Value → am_H → Prop} {v : Int32} : ax k_A_printed 8 ls [.int v] σ Q = Q (some (.int v)) σ := ru_iretI f_A_printed_8
theorem f_A_about_0 : am_cd k_A_about 0 = some ((some .int), .iload_n 1, (0, 0, 0, 0, 0, .null)) := rfl
theorem s_A_about_0 {a0 : Option Value} {st : List Value} {σ : am_H} {Q : Option Value → am_H → Prop} {x : Int32} : ax k_A_about 0 [a0, some (.int x)] st σ Q = ax k_A_about 1 [a0, some (.int x)] (.int x :: st) σ Q := ru_loc (q := (_, _)) f_A_about_0 rfl rfl rfl
theorem f_A_about_1 : am_cd k_A_about 1 = some ((some .int), .tableswitch 117 0 8 #[51, 59, 67, 72, 80, 88, 96, 104, 109], (0, 0, 0, 0, 0, .null)) := rfl
theorem s_A_about_1 {ls : am_L} {st : List Value} {σ : am_H} {Q : Option Value → am_H → Prop} {x : Int32} : ax k_A_about 1 ls (.int x :: st) σ Q = (if x = 0 then ax k_A_about 52 ls st σ Q else (if x = 1 then ax k_A_about 60 ls st σ Q else (if x = 2 then ax k_A_about 68 ls st σ Q else (if x = 3 then ax k_A_about 73 ls st σ Q else (if x = 4 then ax k_A_about 81 ls st σ Q else (if x = 5 then ax k_A_about 89 ls st σ Q else (if x = 6 then ax k_A_about 97 ls st σ Q else (if x = 7 then ax k_A_about 105 ls st σ Q else (if x = 8 then ax k_A_about 110 ls st σ Q else ax k_A_about 118 ls st σ Q))))))))) := by
  by_cases h0 : x = 0
  · rw [if_pos h0]; subst h0; exact ru_tabI f_A_about_1 (by decide) rfl rfl
  by_cases h1 : x = 1
  · rw [if_neg h0, if_pos h1]; subst h1; exact ru_tabI f_A_about_1 (by decide) rfl rfl
  by_cases h2 : x = 2
  · rw [if_neg h0, if_neg h1, if_pos h2]; subst h2; exact ru_tabI f_A_about_1 (by decide) rfl rfl
  by_cases h3 : x = 3
  · rw [if_neg h0, if_neg h1, if_neg h2, if_pos h3]; subst h3; exact ru_tabI f_A_about_1 (by decide) rfl rfl
  by_cases h4 : x = 4
  · rw [if_neg h0, if_neg h1, if_neg h2, if_neg h3, if_pos h4]; subst h4; exact ru_tabI f_A_about_1 (by decide) rfl rfl
  by_cases h5 : x = 5
  · rw [if_neg h0, if_neg h1, if_neg h2, if_neg h3, if_neg h4, if_pos h5]; subst h5; exact ru_tabI f_A_about_1 (by decide) rfl rfl
  by_cases h6 : x = 6
  · rw [if_neg h0, if_neg h1, if_neg h2, if_neg h3, if_neg h4, if_neg h5, if_pos h6]; subst h6; exact ru_tabI f_A_about_1 (by decide) rfl rfl
  by_cases h7 : x = 7
  · rw [if_neg h0, if_neg h1, if_neg h2, if_neg h3, if_neg h4, if_neg h5, if_neg h6, if_pos h7]; subst h7; exact ru_tabI f_A_about_1 (by decide) rfl rfl
  by_cases h8 : x = 8
  · rw [if_neg h0, if_neg h1, if_neg h2, if_neg h3, if_neg h4, if_neg h5, if_neg h6, if_neg h7, if_pos h8]; subst h8; exact ru_tabI f_A_about_1 (by decide) rfl rfl
  rw [if_neg h0, if_neg h1, if_neg h2, if_neg h3, if_neg h4, if_neg h5, if_neg h6, if_neg h7, if_neg h8]
  have e0 : ¬ x.toInt = 0 := fun z => h0 (Int32.toInt_inj.mp (z.trans (by decide)))
  have e1 : ¬ x.toInt = 1 := fun z => h1 (Int32.toInt_inj.mp (z.trans (by decide)))
  have e2 : ¬ x.toInt = 2 := fun z => h2 (Int32.toInt_inj.mp (z.trans (by decide)))
  have e3 : ¬ x.toInt = 3 := fun z => h3 (Int32.toInt_inj.mp (z.trans (by decide)))
  have e4 : ¬ x.toInt = 4 := fun z => h4 (Int32.toInt_inj.mp (z.trans (by decide)))
  have e5 : ¬ x.toInt = 5 := fun z => h5 (Int32.toInt_inj.mp (z.trans (by decide)))
  have e6 : ¬ x.toInt = 6 := fun z => h6 (Int32.toInt_inj.mp (z.trans (by decide)))
  have e7 : ¬ x.toInt = 7 := fun z => h7 (Int32.toInt_inj.mp (z.trans (by decide)))
  have e8 : ¬ x.toInt = 8 := fun z => h8 (Int32.toInt_inj.mp (z.trans (by decide)))
  exact ru_tabO f_A_about_1 (by omega) rfl
theorem f_A_about_52 : am_cd k_A_about 52 = some ((some .int), .aload_n 0, (0, 0, 0, 0, 0, .null)) := rfl
theorem s_A_about_52 {a1 : Option Value} {st : List Value} {σ : am_H} {Q : Option Value → am_H → Prop} {x : Nat} : ax k_A_about 52 [some (.ref x), a1] st σ Q = ax k_A_about 53 [some (.ref x), a1] (.ref x :: st) σ Q := ru_loc (q := (_, _)) f_A_about_52 rfl rfl rfl
theorem f_A_about_53 : am_cd k_A_about 53 = some ((some .int), .getfield 10, (10, 0, 280, 0, 3, .null)) := rfl
theorem s_A_about_53 {ls : am_L} {st : List Value} {σ : am_H} {Q : Option Value → am_H → Prop} {a : Nat} : ax k_A_about 53 ls (.ref a :: st) σ Q = ax_f (am_fld σ a 10 0) (fun v => ax k_A_about 56 ls (v :: st) σ Q) := ru_getf f_A_about_53 rfl
theorem f_A_about_56 : am_cd k_A_about 56 = some ((some .int), .getfield 165, (9, 4, 1, 1, 0, .null)) := rfl
theorem s_A_about_56 {ls : am_L} {st : List Value} {σ : am_H} {Q : Option Value → am_H → Prop} {a : Nat} : ax k_A_about 56 ls (.ref a :: st) σ Q = ax_f (am_fld σ a 9 4) (fun v => ax k_A_about 59 ls (v :: st) σ Q) := ru_getf f_A_about_56 rfl
theorem f_A_about_59 : am_cd k_A_about 59 = some ((some .int), .ireturn, (0, 0, 0, 0, 0, .null)) := rfl
theorem s_A_about_59 {ls : am_L} {σ : am_H} {Q : Option Value → am_H → Prop} {v : Int32} : ax k_A_about 59 ls [.int v] σ Q = Q (some (.int v)) σ := ru_iretI f_A_about_59
theorem f_A_about_60 : am_cd k_A_about 60 = some ((some .int), .aload_n 0, (0, 0, 0, 0, 0, .null)) := rfl
theorem s_A_about_60 {a1 : Option Value} {st : List Value} {σ : am_H} {Q : Option Value → am_H → Prop} {x : Nat} : ax k_A_about 60 [some (.ref x), a1] st σ Q = ax k_A_about 61 [some (.ref x), a1] (.ref x :: st) σ Q := ru_loc (q := (_, _)) f_A_about_60 rfl rfl rfl
theorem f_A_about_61 : am_cd k_A_about 61 = some ((some .int), .getfield 19, (10, 1, 281, 0, 3, .null)) := rfl
theorem s_A_about_61 {ls : am_L} {st : List Value} {σ : am_H} {Q : Option Value → am_H → Prop} {a : Nat} : ax k_A_about 61 ls (.ref a :: st) σ Q = ax_f (am_fld σ a 10 1) (fun v => ax k_A_about 64 ls (v :: st) σ Q) := ru_getf f_A_about_61 rfl
theorem f_A_about_64 : am_cd k_A_about 64 = some ((some .int), .getfield 252, (0, 6, 3, 1, 0, .null)) := rfl
theorem s_A_about_64 {ls : am_L} {st : List Value} {σ : am_H} {Q : Option Value → am_H → Prop} {a : Nat} : ax k_A_about 64 ls (.ref a :: st) σ Q = ax_f (am_fld σ a 0 6) (fun v => ax k_A_about 67 ls (v :: st) σ Q) := ru_getf f_A_about_64 rfl
theorem f_A_about_67 : am_cd k_A_about 67 = some ((some .int), .ireturn, (0, 0, 0, 0, 0, .null)) := rfl
theorem s_A_about_67 {ls : am_L} {σ : am_H} {Q : Option Value → am_H → Prop} {v : Int32} : ax k_A_about 67 ls [.int v] σ Q = Q (some (.int v)) σ := ru_iretI f_A_about_67
theorem f_A_about_68 : am_cd k_A_about 68 = some ((some .int), .aload_n 0, (0, 0, 0, 0, 0, .null)) := rfl
theorem s_A_about_68 {a1 : Option Value} {st : List Value} {σ : am_H} {Q : Option Value → am_H → Prop} {x : Nat} : ax k_A_about 68 [some (.ref x), a1] st σ Q = ax k_A_about 69 [some (.ref x), a1] (.ref x :: st) σ Q := ru_loc (q := (_, _)) f_A_about_68 rfl rfl rfl
theorem f_A_about_69 : am_cd k_A_about 69 = some ((some .int), .getfield 82, (10, 11, 291, 0, 0, .null)) := rfl
theorem s_A_about_69 {ls : am_L} {st : List Value} {σ : am_H} {Q : Option Value → am_H → Prop} {a : Nat} : ax k_A_about 69 ls (.ref a :: st) σ Q = ax_f (am_fld σ a 10 11) (fun v => ax k_A_about 72 ls (v :: st) σ Q) := ru_getf f_A_about_69 rfl
theorem f_A_about_72 : am_cd k_A_about 72 = some ((some .int), .ireturn, (0, 0, 0, 0, 0, .null)) := rfl
theorem s_A_about_72 {ls : am_L} {σ : am_H} {Q : Option Value → am_H → Prop} {v : Int32} : ax k_A_about 72 ls [.int v] σ Q = Q (some (.int v)) σ := ru_iretI f_A_about_72
theorem f_A_about_73 : am_cd k_A_about 73 = some ((some .int), .aload_n 0, (0, 0, 0, 0, 0, .null)) := rfl
theorem s_A_about_73 {a1 : Option Value} {st : List Value} {σ : am_H} {Q : Option Value → am_H → Prop} {x : Nat} : ax k_A_about 73 [some (.ref x), a1] st σ Q = ax k_A_about 74 [some (.ref x), a1] (.ref x :: st) σ Q := ru_loc (q := (_, _)) f_A_about_73 rfl rfl rfl
theorem f_A_about_74 : am_cd k_A_about 74 = some ((some .int), .getfield 64, (10, 8, 288, 0, 3, .null)) := rfl
theorem s_A_about_74 {ls : am_L} {st : List Value} {σ : am_H} {Q : Option Value → am_H → Prop} {a : Nat} : ax k_A_about 74 ls (.ref a :: st) σ Q = ax_f (am_fld σ a 10 8) (fun v => ax k_A_about 77 ls (v :: st) σ Q) := ru_getf f_A_about_74 rfl
theorem f_A_about_77 : am_cd k_A_about 77 = some ((some .int), .getfield 253, (2, 2, 15, 1, 0, .null)) := rfl
theorem s_A_about_77 {ls : am_L} {st : List Value} {σ : am_H} {Q : Option Value → am_H → Prop} {a : Nat} : ax k_A_about 77 ls (.ref a :: st) σ Q = ax_f (am_fld σ a 2 2) (fun v => ax k_A_about 80 ls (v :: st) σ Q) := ru_getf f_A_about_77 rfl
theorem f_A_about_80 : am_cd k_A_about 80 = some ((some .int), .ireturn, (0, 0, 0, 0, 0, .null)) := rfl
theorem s_A_about_80 {ls : am_L} {σ : am_H} {Q : Option Value → am_H → Prop} {v : Int32} : ax k_A_about 80 ls [.int v] σ Q = Q (some (.int v)) σ := ru_iretI f_A_about_80
theorem f_A_about_81 : am_cd k_A_about 81 = some ((some .int), .aload_n 0, (0, 0, 0, 0, 0, .null)) := rfl
theorem s_A_about_81 {a1 : Option Value} {st : List Value} {σ : am_H} {Q : Option Value → am_H → Prop} {x : Nat} : ax k_A_about 81 [some (.ref x), a1] st σ Q = ax k_A_about 82 [some (.ref x), a1] (.ref x :: st) σ Q := ru_loc (q := (_, _)) f_A_about_81 rfl rfl rfl
theorem f_A_about_82 : am_cd k_A_about 82 = some ((some .int), .getfield 64, (10, 8, 288, 0, 3, .null)) := rfl
theorem s_A_about_82 {ls : am_L} {st : List Value} {σ : am_H} {Q : Option Value → am_H → Prop} {a : Nat} : ax k_A_about 82 ls (.ref a :: st) σ Q = ax_f (am_fld σ a 10 8) (fun v => ax k_A_about 85 ls (v :: st) σ Q) := ru_getf f_A_about_82 rfl
theorem f_A_about_85 : am_cd k_A_about 85 = some ((some .int), .getfield 239, (2, 3, 16, 1, 0, .null)) := rfl
theorem s_A_about_85 {ls : am_L} {st : List Value} {σ : am_H} {Q : Option Value → am_H → Prop} {a : Nat} : ax k_A_about 85 ls (.ref a :: st) σ Q = ax_f (am_fld σ a 2 3) (fun v => ax k_A_about 88 ls (v :: st) σ Q) := ru_getf f_A_about_85 rfl
theorem f_A_about_88 : am_cd k_A_about 88 = some ((some .int), .ireturn, (0, 0, 0, 0, 0, .null)) := rfl
theorem s_A_about_88 {ls : am_L} {σ : am_H} {Q : Option Value → am_H → Prop} {v : Int32} : ax k_A_about 88 ls [.int v] σ Q = Q (some (.int v)) σ := ru_iretI f_A_about_88
theorem f_A_about_89 : am_cd k_A_about 89 = some ((some .int), .aload_n 0, (0, 0, 0, 0, 0, .null)) := rfl
theorem s_A_about_89 {a1 : Option Value} {st : List Value} {σ : am_H} {Q : Option Value → am_H → Prop} {x : Nat} : ax k_A_about 89 [some (.ref x), a1] st σ Q = ax k_A_about 90 [some (.ref x), a1] (.ref x :: st) σ Q := ru_loc (q := (_, _)) f_A_about_89 rfl rfl rfl
theorem f_A_about_90 : am_cd k_A_about 90 = some ((some .int), .getfield 64, (10, 8, 288, 0, 3, .null)) := rfl
theorem s_A_about_90 {ls : am_L} {st : List Value} {σ : am_H} {Q : Option Value → am_H → Prop} {a : Nat} : ax k_A_about 90 ls (.ref a :: st) σ Q = ax_f (am_fld σ a 10 8) (fun v => ax k_A_about 93 ls (v :: st) σ Q) := ru_getf f_A_about_90 rfl
theorem f_A_about_93 : am_cd k_A_about 93 = some ((some .int), .getfield 254, (2, 4, 17, 1, 0, .null)) := rfl
theorem s_A_about_93 {ls : am_L} {st : List Value} {σ : am_H} {Q : Option Value → am_H → Prop} {a : Nat} : ax k_A_about 93 ls (.ref a :: st) σ Q = ax_f (am_fld σ a 2 4) (fun v => ax k_A_about 96 ls (v :: st) σ Q) := ru_getf f_A_about_93 rfl
theorem f_A_about_96 : am_cd k_A_about 96 = some ((some .int), .ireturn, (0, 0, 0, 0, 0, .null)) := rfl
theorem s_A_about_96 {ls : am_L} {σ : am_H} {Q : Option Value → am_H → Prop} {v : Int32} : ax k_A_about 96 ls [.int v] σ Q = Q (some (.int v)) σ := ru_iretI f_A_about_96
theorem f_A_about_97 : am_cd k_A_about 97 = some ((some .int), .aload_n 0, (0, 0, 0, 0, 0, .null)) := rfl
theorem s_A_about_97 {a1 : Option Value} {st : List Value} {σ : am_H} {Q : Option Value → am_H → Prop} {x : Nat} : ax k_A_about 97 [some (.ref x), a1] st σ Q = ax k_A_about 98 [some (.ref x), a1] (.ref x :: st) σ Q := ru_loc (q := (_, _)) f_A_about_97 rfl rfl rfl
theorem f_A_about_98 : am_cd k_A_about 98 = some ((some .int), .getfield 19, (10, 1, 281, 0, 3, .null)) := rfl
theorem s_A_about_98 {ls : am_L} {st : List Value} {σ : am_H} {Q : Option Value → am_H → Prop} {a : Nat} : ax k_A_about 98 ls (.ref a :: st) σ Q = ax_f (am_fld σ a 10 1) (fun v => ax k_A_about 101 ls (v :: st) σ Q) := ru_getf f_A_about_98 rfl
theorem f_A_about_101 : am_cd k_A_about 101 = some ((some .int), .getfield 137, (0, 7, 4, 1, 0, .null)) := rfl
theorem s_A_about_101 {ls : am_L} {st : List Value} {σ : am_H} {Q : Option Value → am_H → Prop} {a : Nat} : ax k_A_about 101 ls (.ref a :: st) σ Q = ax_f (am_fld σ a 0 7) (fun v => ax k_A_about 104 ls (v :: st) σ Q) := ru_getf f_A_about_101 rfl
theorem f_A_about_104 : am_cd k_A_about 104 = some ((some .int), .ireturn, (0, 0, 0, 0, 0, .null)) := rfl
theorem s_A_about_104 {ls : am_L} {σ : am_H} {Q : Option Value → am_H → Prop} {v : Int32} : ax k_A_about 104 ls [.int v] σ Q = Q (some (.int v)) σ := ru_iretI f_A_about_104
theorem f_A_about_105 : am_cd k_A_about 105 = some ((some .int), .aload_n 0, (0, 0, 0, 0, 0, .null)) := rfl
theorem s_A_about_105 {a1 : Option Value} {st : List Value} {σ : am_H} {Q : Option Value → am_H → Prop} {x : Nat} : ax k_A_about 105 [some (.ref x), a1] st σ Q = ax k_A_about 106 [some (.ref x), a1] (.ref x :: st) σ Q := ru_loc (q := (_, _)) f_A_about_105 rfl rfl rfl
theorem f_A_about_106 : am_cd k_A_about 106 = some ((some .int), .getfield 78, (10, 10, 290, 0, 0, .null)) := rfl
theorem s_A_about_106 {ls : am_L} {st : List Value} {σ : am_H} {Q : Option Value → am_H → Prop} {a : Nat} : ax k_A_about 106 ls (.ref a :: st) σ Q = ax_f (am_fld σ a 10 10) (fun v => ax k_A_about 109 ls (v :: st) σ Q) := ru_getf f_A_about_106 rfl
theorem f_A_about_109 : am_cd k_A_about 109 = some ((some .int), .ireturn, (0, 0, 0, 0, 0, .null)) := rfl
theorem s_A_about_109 {ls : am_L} {σ : am_H} {Q : Option Value → am_H → Prop} {v : Int32} : ax k_A_about 109 ls [.int v] σ Q = Q (some (.int v)) σ := ru_iretI f_A_about_109
theorem f_A_about_110 : am_cd k_A_about 110 = some ((some .int), .aload_n 0, (0, 0, 0, 0, 0, .null)) := rfl
theorem s_A_about_110 {a1 : Option Value} {st : List Value} {σ : am_H} {Q : Option Value → am_H → Prop} {x : Nat} : ax k_A_about 110 [some (.ref x), a1] st σ Q = ax k_A_about 111 [some (.ref x), a1] (.ref x :: st) σ Q := ru_loc (q := (_, _)) f_A_about_110 rfl rfl rfl
theorem f_A_about_111 : am_cd k_A_about 111 = some ((some .int), .getfield 53, (10, 6, 286, 0, 3, .null)) := rfl
theorem s_A_about_111 {ls : am_L} {st : List Value} {σ : am_H} {Q : Option Value → am_H → Prop} {a : Nat} : ax k_A_about 111 ls (.ref a :: st) σ Q = ax_f (am_fld σ a 10 6) (fun v => ax k_A_about 114 ls (v :: st) σ Q) := ru_getf f_A_about_111 rfl
theorem f_A_about_114 : am_cd k_A_about 114 = some ((some .int), .getfield 154, (7, 1, 8, 1, 0, .null)) := rfl
theorem s_A_about_114 {ls : am_L} {st : List Value} {σ : am_H} {Q : Option Value → am_H → Prop} {a : Nat} : ax k_A_about 114 ls (.ref a :: st) σ Q = ax_f (am_fld σ a 7 1) (fun v => ax k_A_about 117 ls (v :: st) σ Q) := ru_getf f_A_about_114 rfl
theorem f_A_about_117 : am_cd k_A_about 117 = some ((some .int), .ireturn, (0, 0, 0, 0, 0, .null)) := rfl
theorem s_A_about_117 {ls : am_L} {σ : am_H} {Q : Option Value → am_H → Prop} {v : Int32} : ax k_A_about 117 ls [.int v] σ Q = Q (some (.int v)) σ := ru_iretI f_A_about_117
theorem f_A_about_118 : am_cd k_A_about 118 = some ((some .int), .iconst (-1), (0, 0, 0, 0, 0, .null)) := rfl
theorem s_A_about_118 {ls : am_L} {st : List Value} {σ : am_H} {Q : Option Value → am_H → Prop} : ax k_A_about 118 ls st σ Q = ax k_A_about 119 ls (.int (-1) :: st) σ Q := ru_iconst f_A_about_118 (by decide +kernel) rfl
theorem f_A_about_119 : am_cd k_A_about 119 = some ((some .int), .ireturn, (0, 0, 0, 0, 0, .null)) := rfl
theorem s_A_about_119 {ls : am_L} {σ : am_H} {Q : Option Value → am_H → Prop} {v : Int32} : ax k_A_about 119 ls [.int v] σ Q = Q (some (.int v)) σ := ru_iretI f_A_about_119
theorem f_A_isMinute_0 : am_cd k_A_isMinute 0 = some ((some .boolean), .iload_n 0, (0, 0, 0, 0, 0, .null)) := rfl
theorem s_A_isMinute_0 {st : List Value} {σ : am_H} {Q : Option Value → am_H → Prop} {x : Int32} : ax k_A_isMinute 0 [some (.int x)] st σ Q = ax k_A_isMinute 1 [some (.int x)] (.int x :: st) σ Q := ru_loc (q := (_, _)) f_A_isMinute_0 rfl rfl rfl
theorem f_A_isMinute_1 : am_cd k_A_isMinute 1 = some ((some .boolean), .ifCond .lt 13, (14, 0, 0, 0, 0, .null)) := rfl
theorem s_A_isMinute_1 {ls : am_L} {st : List Value} {σ : am_H} {Q : Option Value → am_H → Prop} {x : Int32} : ax k_A_isMinute 1 ls (.int x :: st) σ Q = (if x < 0 then ax k_A_isMinute 14 ls st σ Q else ax k_A_isMinute 4 ls st σ Q) := (ru_if f_A_isMinute_1 rfl).trans (ru_i_lt _ _ _ _)
theorem f_A_isMinute_4 : am_cd k_A_isMinute 4 = some ((some .boolean), .iload_n 0, (0, 0, 0, 0, 0, .null)) := rfl
theorem s_A_isMinute_4 {st : List Value} {σ : am_H} {Q : Option Value → am_H → Prop} {x : Int32} : ax k_A_isMinute 4 [some (.int x)] st σ Q = ax k_A_isMinute 5 [some (.int x)] (.int x :: st) σ Q := ru_loc (q := (_, _)) f_A_isMinute_4 rfl rfl rfl
theorem f_A_isMinute_5 : am_cd k_A_isMinute 5 = some ((some .boolean), .ldc 206, (0, 0, 324, 0, 0, .int (100000))) := rfl
theorem s_A_isMinute_5 {ls : am_L} {st : List Value} {σ : am_H} {Q : Option Value → am_H → Prop} : ax k_A_isMinute 5 ls st σ Q = ax k_A_isMinute 7 ls (.int (100000) :: st) σ Q := ru_rd f_A_isMinute_5 rfl rfl rfl rfl rfl
theorem f_A_isMinute_7 : am_cd k_A_isMinute 7 = some ((some .boolean), .if_icmp .gt 7, (14, 0, 0, 0, 0, .null)) := rfl
theorem s_A_isMinute_7 {ls : am_L} {st : List Value} {σ : am_H} {Q : Option Value → am_H → Prop} {x y : Int32} : ax k_A_isMinute 7 ls (.int y :: .int x :: st) σ Q = (if y < x then ax k_A_isMinute 14 ls st σ Q else ax k_A_isMinute 10 ls st σ Q) := (ru_icmp f_A_isMinute_7 rfl).trans (ru_i_gt _ _ _ _)
theorem f_A_isMinute_10 : am_cd k_A_isMinute 10 = some ((some .boolean), .iconst 1, (0, 0, 0, 0, 0, .null)) := rfl
theorem s_A_isMinute_10 {ls : am_L} {st : List Value} {σ : am_H} {Q : Option Value → am_H → Prop} : ax k_A_isMinute 10 ls st σ Q = ax k_A_isMinute 11 ls (.int 1 :: st) σ Q := ru_iconst f_A_isMinute_10 (by decide +kernel) rfl
theorem f_A_isMinute_11 : am_cd k_A_isMinute 11 = some ((some .boolean), .goto 4, (15, 0, 0, 0, 0, .null)) := rfl
theorem s_A_isMinute_11 {ls : am_L} {st : List Value} {σ : am_H} {Q : Option Value → am_H → Prop} : ax k_A_isMinute 11 ls st σ Q = ax k_A_isMinute 15 ls st σ Q := ru_goto f_A_isMinute_11
theorem f_A_isMinute_14 : am_cd k_A_isMinute 14 = some ((some .boolean), .iconst 0, (0, 0, 0, 0, 0, .null)) := rfl
theorem s_A_isMinute_14 {ls : am_L} {st : List Value} {σ : am_H} {Q : Option Value → am_H → Prop} : ax k_A_isMinute 14 ls st σ Q = ax k_A_isMinute 15 ls (.int 0 :: st) σ Q := ru_iconst f_A_isMinute_14 (by decide +kernel) rfl
theorem f_A_isMinute_15 : am_cd k_A_isMinute 15 = some ((some .boolean), .ireturn, (0, 0, 0, 0, 0, .null)) := rfl
theorem s_A_isMinute_15 {ls : am_L} {σ : am_H} {Q : Option Value → am_H → Prop} {v : Int32} : ax k_A_isMinute 15 ls ([.int v]) σ Q = (am_nar .boolean v = true ∧ Q (some (.int v)) σ) := ru_iret f_A_isMinute_15
theorem f_A_isPerson_0 : am_cd k_A_isPerson 0 = some ((some .boolean), .iload_n 0, (0, 0, 0, 0, 0, .null)) := rfl
theorem s_A_isPerson_0 {st : List Value} {σ : am_H} {Q : Option Value → am_H → Prop} {x : Int32} : ax k_A_isPerson 0 [some (.int x)] st σ Q = ax k_A_isPerson 1 [some (.int x)] (.int x :: st) σ Q := ru_loc (q := (_, _)) f_A_isPerson_0 rfl rfl rfl
theorem f_A_isPerson_1 : am_cd k_A_isPerson 1 = some ((some .boolean), .ifCond .lt 13, (14, 0, 0, 0, 0, .null)) := rfl
theorem s_A_isPerson_1 {ls : am_L} {st : List Value} {σ : am_H} {Q : Option Value → am_H → Prop} {x : Int32} : ax k_A_isPerson 1 ls (.int x :: st) σ Q = (if x < 0 then ax k_A_isPerson 14 ls st σ Q else ax k_A_isPerson 4 ls st σ Q) := (ru_if f_A_isPerson_1 rfl).trans (ru_i_lt _ _ _ _)
theorem f_A_isPerson_4 : am_cd k_A_isPerson 4 = some ((some .boolean), .iload_n 0, (0, 0, 0, 0, 0, .null)) := rfl
theorem s_A_isPerson_4 {st : List Value} {σ : am_H} {Q : Option Value → am_H → Prop} {x : Int32} : ax k_A_isPerson 4 [some (.int x)] st σ Q = ax k_A_isPerson 5 [some (.int x)] (.int x :: st) σ Q := ru_loc (q := (_, _)) f_A_isPerson_4 rfl rfl rfl
theorem f_A_isPerson_5 : am_cd k_A_isPerson 5 = some ((some .boolean), .bipush 16, (0, 0, 0, 0, 0, .null)) := rfl
theorem s_A_isPerson_5 {ls : am_L} {st : List Value} {σ : am_H} {Q : Option Value → am_H → Prop} : ax k_A_isPerson 5 ls st σ Q = ax k_A_isPerson 7 ls (.int 16 :: st) σ Q := ru_bipush f_A_isPerson_5 (by decide +kernel) rfl
theorem f_A_isPerson_7 : am_cd k_A_isPerson 7 = some ((some .boolean), .if_icmp .ge 7, (14, 0, 0, 0, 0, .null)) := rfl
theorem s_A_isPerson_7 {ls : am_L} {st : List Value} {σ : am_H} {Q : Option Value → am_H → Prop} {x y : Int32} : ax k_A_isPerson 7 ls (.int y :: .int x :: st) σ Q = (if x < y then ax k_A_isPerson 10 ls st σ Q else ax k_A_isPerson 14 ls st σ Q) := (ru_icmp f_A_isPerson_7 rfl).trans (ru_i_ge _ _ _ _)
theorem f_A_isPerson_10 : am_cd k_A_isPerson 10 = some ((some .boolean), .iconst 1, (0, 0, 0, 0, 0, .null)) := rfl
theorem s_A_isPerson_10 {ls : am_L} {st : List Value} {σ : am_H} {Q : Option Value → am_H → Prop} : ax k_A_isPerson 10 ls st σ Q = ax k_A_isPerson 11 ls (.int 1 :: st) σ Q := ru_iconst f_A_isPerson_10 (by decide +kernel) rfl
theorem f_A_isPerson_11 : am_cd k_A_isPerson 11 = some ((some .boolean), .goto 4, (15, 0, 0, 0, 0, .null)) := rfl
theorem s_A_isPerson_11 {ls : am_L} {st : List Value} {σ : am_H} {Q : Option Value → am_H → Prop} : ax k_A_isPerson 11 ls st σ Q = ax k_A_isPerson 15 ls st σ Q := ru_goto f_A_isPerson_11
theorem f_A_isPerson_14 : am_cd k_A_isPerson 14 = some ((some .boolean), .iconst 0, (0, 0, 0, 0, 0, .null)) := rfl
theorem s_A_isPerson_14 {ls : am_L} {st : List Value} {σ : am_H} {Q : Option Value → am_H → Prop} : ax k_A_isPerson 14 ls st σ Q = ax k_A_isPerson 15 ls (.int 0 :: st) σ Q := ru_iconst f_A_isPerson_14 (by decide +kernel) rfl
theorem f_A_isPerson_15 : am_cd k_A_isPerson 15 = some ((some .boolean), .ireturn, (0, 0, 0, 0, 0, .null)) := rfl
theorem s_A_isPerson_15 {ls : am_L} {σ : am_H} {Q : Option Value → am_H → Prop} {v : Int32} : ax k_A_isPerson 15 ls ([.int v]) σ Q = (am_nar .boolean v = true ∧ Q (some (.int v)) σ) := ru_iret f_A_isPerson_15
theorem f_A_isLand_0 : am_cd k_A_isLand 0 = some ((some .boolean), .iload_n 0, (0, 0, 0, 0, 0, .null)) := rfl
theorem s_A_isLand_0 {st : List Value} {σ : am_H} {Q : Option Value → am_H → Prop} {x : Int32} : ax k_A_isLand 0 [some (.int x)] st σ Q = ax k_A_isLand 1 [some (.int x)] (.int x :: st) σ Q := ru_loc (q := (_, _)) f_A_isLand_0 rfl rfl rfl
theorem f_A_isLand_1 : am_cd k_A_isLand 1 = some ((some .boolean), .ifCond .lt 13, (14, 0, 0, 0, 0, .null)) := rfl
theorem s_A_isLand_1 {ls : am_L} {st : List Value} {σ : am_H} {Q : Option Value → am_H → Prop} {x : Int32} : ax k_A_isLand 1 ls (.int x :: st) σ Q = (if x < 0 then ax k_A_isLand 14 ls st σ Q else ax k_A_isLand 4 ls st σ Q) := (ru_if f_A_isLand_1 rfl).trans (ru_i_lt _ _ _ _)
theorem f_A_isLand_4 : am_cd k_A_isLand 4 = some ((some .boolean), .iload_n 0, (0, 0, 0, 0, 0, .null)) := rfl
theorem s_A_isLand_4 {st : List Value} {σ : am_H} {Q : Option Value → am_H → Prop} {x : Int32} : ax k_A_isLand 4 [some (.int x)] st σ Q = ax k_A_isLand 5 [some (.int x)] (.int x :: st) σ Q := ru_loc (q := (_, _)) f_A_isLand_4 rfl rfl rfl
theorem f_A_isLand_5 : am_cd k_A_isLand 5 = some ((some .boolean), .bipush 10, (0, 0, 0, 0, 0, .null)) := rfl
theorem s_A_isLand_5 {ls : am_L} {st : List Value} {σ : am_H} {Q : Option Value → am_H → Prop} : ax k_A_isLand 5 ls st σ Q = ax k_A_isLand 7 ls (.int 10 :: st) σ Q := ru_bipush f_A_isLand_5 (by decide +kernel) rfl
theorem f_A_isLand_7 : am_cd k_A_isLand 7 = some ((some .boolean), .if_icmp .ge 7, (14, 0, 0, 0, 0, .null)) := rfl
theorem s_A_isLand_7 {ls : am_L} {st : List Value} {σ : am_H} {Q : Option Value → am_H → Prop} {x y : Int32} : ax k_A_isLand 7 ls (.int y :: .int x :: st) σ Q = (if x < y then ax k_A_isLand 10 ls st σ Q else ax k_A_isLand 14 ls st σ Q) := (ru_icmp f_A_isLand_7 rfl).trans (ru_i_ge _ _ _ _)
theorem f_A_isLand_10 : am_cd k_A_isLand 10 = some ((some .boolean), .iconst 1, (0, 0, 0, 0, 0, .null)) := rfl
theorem s_A_isLand_10 {ls : am_L} {st : List Value} {σ : am_H} {Q : Option Value → am_H → Prop} : ax k_A_isLand 10 ls st σ Q = ax k_A_isLand 11 ls (.int 1 :: st) σ Q := ru_iconst f_A_isLand_10 (by decide +kernel) rfl
theorem f_A_isLand_11 : am_cd k_A_isLand 11 = some ((some .boolean), .goto 4, (15, 0, 0, 0, 0, .null)) := rfl
theorem s_A_isLand_11 {ls : am_L} {st : List Value} {σ : am_H} {Q : Option Value → am_H → Prop} : ax k_A_isLand 11 ls st σ Q = ax k_A_isLand 15 ls st σ Q := ru_goto f_A_isLand_11
theorem f_A_isLand_14 : am_cd k_A_isLand 14 = some ((some .boolean), .iconst 0, (0, 0, 0, 0, 0, .null)) := rfl
theorem s_A_isLand_14 {ls : am_L} {st : List Value} {σ : am_H} {Q : Option Value → am_H → Prop} : ax k_A_isLand 14 ls st σ Q = ax k_A_isLand 15 ls (.int 0 :: st) σ Q := ru_iconst f_A_isLand_14 (by decide +kernel) rfl
theorem f_A_isLand_15 : am_cd k_A_isLand 15 = some ((some .boolean), .ireturn, (0, 0, 0, 0, 0, .null)) := rfl
theorem s_A_isLand_15 {ls : am_L} {σ : am_H} {Q : Option Value → am_H → Prop} {v : Int32} : ax k_A_isLand 15 ls ([.int v]) σ Q = (am_nar .boolean v = true ∧ Q (some (.int v)) σ) := ru_iret f_A_isLand_15
theorem f_A_isUse_0 : am_cd k_A_isUse 0 = some ((some .boolean), .iload_n 0, (0, 0, 0, 0, 0, .null)) := rfl
theorem s_A_isUse_0 {st : List Value} {σ : am_H} {Q : Option Value → am_H → Prop} {x : Int32} : ax k_A_isUse 0 [some (.int x)] st σ Q = ax k_A_isUse 1 [some (.int x)] (.int x :: st) σ Q := ru_loc (q := (_, _)) f_A_isUse_0 rfl rfl rfl
theorem f_A_isUse_1 : am_cd k_A_isUse 1 = some ((some .boolean), .ifCond .lt 12, (13, 0, 0, 0, 0, .null)) := rfl
theorem s_A_isUse_1 {ls : am_L} {st : List Value} {σ : am_H} {Q : Option Value → am_H → Prop} {x : Int32} : ax k_A_isUse 1 ls (.int x :: st) σ Q = (if x < 0 then ax k_A_isUse 13 ls st σ Q else ax k_A_isUse 4 ls st σ Q) := (ru_if f_A_isUse_1 rfl).trans (ru_i_lt _ _ _ _)
theorem f_A_isUse_4 : am_cd k_A_isUse 4 = some ((some .boolean), .iload_n 0, (0, 0, 0, 0, 0, .null)) := rfl
theorem s_A_isUse_4 {st : List Value} {σ : am_H} {Q : Option Value → am_H → Prop} {x : Int32} : ax k_A_isUse 4 [some (.int x)] st σ Q = ax k_A_isUse 5 [some (.int x)] (.int x :: st) σ Q := ru_loc (q := (_, _)) f_A_isUse_4 rfl rfl rfl
theorem f_A_isUse_5 : am_cd k_A_isUse 5 = some ((some .boolean), .iconst 5, (0, 0, 0, 0, 0, .null)) := rfl
theorem s_A_isUse_5 {ls : am_L} {st : List Value} {σ : am_H} {Q : Option Value → am_H → Prop} : ax k_A_isUse 5 ls st σ Q = ax k_A_isUse 6 ls (.int 5 :: st) σ Q := ru_iconst f_A_isUse_5 (by decide +kernel) rfl
theorem f_A_isUse_6 : am_cd k_A_isUse 6 = some ((some .boolean), .if_icmp .ge 7, (13, 0, 0, 0, 0, .null)) := rfl
theorem s_A_isUse_6 {ls : am_L} {st : List Value} {σ : am_H} {Q : Option Value → am_H → Prop} {x y : Int32} : ax k_A_isUse 6 ls (.int y :: .int x :: st) σ Q = (if x < y then ax k_A_isUse 9 ls st σ Q else ax k_A_isUse 13 ls st σ Q) := (ru_icmp f_A_isUse_6 rfl).trans (ru_i_ge _ _ _ _)
theorem f_A_isUse_9 : am_cd k_A_isUse 9 = some ((some .boolean), .iconst 1, (0, 0, 0, 0, 0, .null)) := rfl
theorem s_A_isUse_9 {ls : am_L} {st : List Value} {σ : am_H} {Q : Option Value → am_H → Prop} : ax k_A_isUse 9 ls st σ Q = ax k_A_isUse 10 ls (.int 1 :: st) σ Q := ru_iconst f_A_isUse_9 (by decide +kernel) rfl
theorem f_A_isUse_10 : am_cd k_A_isUse 10 = some ((some .boolean), .goto 4, (14, 0, 0, 0, 0, .null)) := rfl
theorem s_A_isUse_10 {ls : am_L} {st : List Value} {σ : am_H} {Q : Option Value → am_H → Prop} : ax k_A_isUse 10 ls st σ Q = ax k_A_isUse 14 ls st σ Q := ru_goto f_A_isUse_10
theorem f_A_isUse_13 : am_cd k_A_isUse 13 = some ((some .boolean), .iconst 0, (0, 0, 0, 0, 0, .null)) := rfl
theorem s_A_isUse_13 {ls : am_L} {st : List Value} {σ : am_H} {Q : Option Value → am_H → Prop} : ax k_A_isUse 13 ls st σ Q = ax k_A_isUse 14 ls (.int 0 :: st) σ Q := ru_iconst f_A_isUse_13 (by decide +kernel) rfl
theorem f_A_isUse_14 : am_cd k_A_isUse 14 = some ((some .boolean), .ireturn, (0, 0, 0, 0, 0, .null)) := rfl
theorem s_A_isUse_14 {ls : am_L} {σ : am_H} {Q : Option Value → am_H → Prop} {v : Int32} : ax k_A_isUse 14 ls ([.int v]) σ Q = (am_nar .boolean v = true ∧ Q (some (.int v)) σ) := ru_iret f_A_isUse_14
theorem f_A_isSize_0 : am_cd k_A_isSize 0 = some ((some .boolean), .iload_n 0, (0, 0, 0, 0, 0, .null)) := rfl
theorem s_A_isSize_0 {st : List Value} {σ : am_H} {Q : Option Value → am_H → Prop} {x : Int32} : ax k_A_isSize 0 [some (.int x)] st σ Q = ax k_A_isSize 1 [some (.int x)] (.int x :: st) σ Q := ru_loc (q := (_, _)) f_A_isSize_0 rfl rfl rfl
theorem f_A_isSize_1 : am_cd k_A_isSize 1 = some ((some .boolean), .iconst 1, (0, 0, 0, 0, 0, .null)) := rfl
theorem s_A_isSize_1 {ls : am_L} {st : List Value} {σ : am_H} {Q : Option Value → am_H → Prop} : ax k_A_isSize 1 ls st σ Q = ax k_A_isSize 2 ls (.int 1 :: st) σ Q := ru_iconst f_A_isSize_1 (by decide +kernel) rfl
theorem f_A_isSize_2 : am_cd k_A_isSize 2 = some ((some .boolean), .if_icmp .lt 14, (16, 0, 0, 0, 0, .null)) := rfl
theorem s_A_isSize_2 {ls : am_L} {st : List Value} {σ : am_H} {Q : Option Value → am_H → Prop} {x y : Int32} : ax k_A_isSize 2 ls (.int y :: .int x :: st) σ Q = (if x < y then ax k_A_isSize 16 ls st σ Q else ax k_A_isSize 5 ls st σ Q) := (ru_icmp f_A_isSize_2 rfl).trans (ru_i_lt _ _ _ _)
theorem f_A_isSize_5 : am_cd k_A_isSize 5 = some ((some .boolean), .iload_n 0, (0, 0, 0, 0, 0, .null)) := rfl
theorem s_A_isSize_5 {st : List Value} {σ : am_H} {Q : Option Value → am_H → Prop} {x : Int32} : ax k_A_isSize 5 [some (.int x)] st σ Q = ax k_A_isSize 6 [some (.int x)] (.int x :: st) σ Q := ru_loc (q := (_, _)) f_A_isSize_5 rfl rfl rfl
theorem f_A_isSize_6 : am_cd k_A_isSize 6 = some ((some .boolean), .sipush 1000, (0, 0, 0, 0, 0, .null)) := rfl
theorem s_A_isSize_6 {ls : am_L} {st : List Value} {σ : am_H} {Q : Option Value → am_H → Prop} : ax k_A_isSize 6 ls st σ Q = ax k_A_isSize 9 ls (.int 1000 :: st) σ Q := ru_sipush f_A_isSize_6 (by decide +kernel) rfl
theorem f_A_isSize_9 : am_cd k_A_isSize 9 = some ((some .boolean), .if_icmp .gt 7, (16, 0, 0, 0, 0, .null)) := rfl
theorem s_A_isSize_9 {ls : am_L} {st : List Value} {σ : am_H} {Q : Option Value → am_H → Prop} {x y : Int32} : ax k_A_isSize 9 ls (.int y :: .int x :: st) σ Q = (if y < x then ax k_A_isSize 16 ls st σ Q else ax k_A_isSize 12 ls st σ Q) := (ru_icmp f_A_isSize_9 rfl).trans (ru_i_gt _ _ _ _)
theorem f_A_isSize_12 : am_cd k_A_isSize 12 = some ((some .boolean), .iconst 1, (0, 0, 0, 0, 0, .null)) := rfl
theorem s_A_isSize_12 {ls : am_L} {st : List Value} {σ : am_H} {Q : Option Value → am_H → Prop} : ax k_A_isSize 12 ls st σ Q = ax k_A_isSize 13 ls (.int 1 :: st) σ Q := ru_iconst f_A_isSize_12 (by decide +kernel) rfl
theorem f_A_isSize_13 : am_cd k_A_isSize 13 = some ((some .boolean), .goto 4, (17, 0, 0, 0, 0, .null)) := rfl
theorem s_A_isSize_13 {ls : am_L} {st : List Value} {σ : am_H} {Q : Option Value → am_H → Prop} : ax k_A_isSize 13 ls st σ Q = ax k_A_isSize 17 ls st σ Q := ru_goto f_A_isSize_13
theorem f_A_isSize_16 : am_cd k_A_isSize 16 = some ((some .boolean), .iconst 0, (0, 0, 0, 0, 0, .null)) := rfl
theorem s_A_isSize_16 {ls : am_L} {st : List Value} {σ : am_H} {Q : Option Value → am_H → Prop} : ax k_A_isSize 16 ls st σ Q = ax k_A_isSize 17 ls (.int 0 :: st) σ Q := ru_iconst f_A_isSize_16 (by decide +kernel) rfl
theorem f_A_isSize_17 : am_cd k_A_isSize 17 = some ((some .boolean), .ireturn, (0, 0, 0, 0, 0, .null)) := rfl
theorem s_A_isSize_17 {ls : am_L} {σ : am_H} {Q : Option Value → am_H → Prop} {v : Int32} : ax k_A_isSize 17 ls ([.int v]) σ Q = (am_nar .boolean v = true ∧ Q (some (.int v)) σ) := ru_iret f_A_isSize_17
theorem f_A_holds_0 : am_cd k_A_holds 0 = some ((some .boolean), .iload_n 2, (0, 0, 0, 0, 0, .null)) := rfl
theorem s_A_holds_0 {a0 a1 : Option Value} {st : List Value} {σ : am_H} {Q : Option Value → am_H → Prop} {x : Int32} : ax k_A_holds 0 [a0, a1, some (.int x)] st σ Q = ax k_A_holds 1 [a0, a1, some (.int x)] (.int x :: st) σ Q := ru_loc (q := (_, _)) f_A_holds_0 rfl rfl rfl
theorem f_A_holds_1 : am_cd k_A_holds 1 = some ((some .boolean), .ifCond .lt 23, (24, 0, 0, 0, 0, .null)) := rfl
theorem s_A_holds_1 {ls : am_L} {st : List Value} {σ : am_H} {Q : Option Value → am_H → Prop} {x : Int32} : ax k_A_holds 1 ls (.int x :: st) σ Q = (if x < 0 then ax k_A_holds 24 ls st σ Q else ax k_A_holds 4 ls st σ Q) := (ru_if f_A_holds_1 rfl).trans (ru_i_lt _ _ _ _)
theorem f_A_holds_4 : am_cd k_A_holds 4 = some ((some .boolean), .iload_n 2, (0, 0, 0, 0, 0, .null)) := rfl
theorem s_A_holds_4 {a0 a1 : Option Value} {st : List Value} {σ : am_H} {Q : Option Value → am_H → Prop} {x : Int32} : ax k_A_holds 4 [a0, a1, some (.int x)] st σ Q = ax k_A_holds 5 [a0, a1, some (.int x)] (.int x :: st) σ Q := ru_loc (q := (_, _)) f_A_holds_4 rfl rfl rfl
theorem f_A_holds_5 : am_cd k_A_holds 5 = some ((some .boolean), .bipush 64, (0, 0, 0, 0, 0, .null)) := rfl
theorem s_A_holds_5 {ls : am_L} {st : List Value} {σ : am_H} {Q : Option Value → am_H → Prop} : ax k_A_holds 5 ls st σ Q = ax k_A_holds 7 ls (.int 64 :: st) σ Q := ru_bipush f_A_holds_5 (by decide +kernel) rfl
theorem f_A_holds_7 : am_cd k_A_holds 7 = some ((some .boolean), .if_icmp .ge 17, (24, 0, 0, 0, 0, .null)) := rfl
theorem s_A_holds_7 {ls : am_L} {st : List Value} {σ : am_H} {Q : Option Value → am_H → Prop} {x y : Int32} : ax k_A_holds 7 ls (.int y :: .int x :: st) σ Q = (if x < y then ax k_A_holds 10 ls st σ Q else ax k_A_holds 24 ls st σ Q) := (ru_icmp f_A_holds_7 rfl).trans (ru_i_ge _ _ _ _)
theorem f_A_holds_10 : am_cd k_A_holds 10 = some ((some .boolean), .lload_n 0, (0, 0, 0, 0, 0, .null)) := rfl
theorem s_A_holds_10 {a1 a2 : Option Value} {st : List Value} {σ : am_H} {Q : Option Value → am_H → Prop} {x : Int64} : ax k_A_holds 10 [some (.long x), a1, a2] st σ Q = ax k_A_holds 11 [some (.long x), a1, a2] (.long x :: st) σ Q := ru_loc (q := (_, _)) f_A_holds_10 rfl rfl rfl
theorem f_A_holds_11 : am_cd k_A_holds 11 = some ((some .boolean), .iload_n 2, (0, 0, 0, 0, 0, .null)) := rfl
theorem s_A_holds_11 {a0 a1 : Option Value} {st : List Value} {σ : am_H} {Q : Option Value → am_H → Prop} {x : Int32} : ax k_A_holds 11 [a0, a1, some (.int x)] st σ Q = ax k_A_holds 12 [a0, a1, some (.int x)] (.int x :: st) σ Q := ru_loc (q := (_, _)) f_A_holds_11 rfl rfl rfl
theorem f_A_holds_12 : am_cd k_A_holds 12 = some ((some .boolean), .lshr, (0, 0, 0, 0, 0, .null)) := rfl
theorem s_A_holds_12 {ls : am_L} {st : List Value} {σ : am_H} {Q : Option Value → am_H → Prop} {x : Int64} {y : Int32} : ax k_A_holds 12 ls (.int y :: .long x :: st) σ Q = ax k_A_holds 13 ls (.long (x >>> (y.toInt64 &&& 63)) :: st) σ Q := ru_pure f_A_holds_12 rfl rfl
theorem f_A_holds_13 : am_cd k_A_holds 13 = some ((some .boolean), .lconst 1, (0, 0, 0, 0, 0, .null)) := rfl
theorem s_A_holds_13 {ls : am_L} {st : List Value} {σ : am_H} {Q : Option Value → am_H → Prop} : ax k_A_holds 13 ls st σ Q = ax k_A_holds 14 ls (.long 1 :: st) σ Q := ru_lconst f_A_holds_13 (by decide +kernel) rfl
theorem f_A_holds_14 : am_cd k_A_holds 14 = some ((some .boolean), .land, (0, 0, 0, 0, 0, .null)) := rfl
theorem s_A_holds_14 {ls : am_L} {st : List Value} {σ : am_H} {Q : Option Value → am_H → Prop} {x y : Int64} : ax k_A_holds 14 ls (.long y :: .long x :: st) σ Q = ax k_A_holds 15 ls (.long (x &&& y) :: st) σ Q := ru_pure f_A_holds_14 rfl rfl
theorem f_A_holds_15 : am_cd k_A_holds 15 = some ((some .boolean), .lconst 0, (0, 0, 0, 0, 0, .null)) := rfl
theorem s_A_holds_15 {ls : am_L} {st : List Value} {σ : am_H} {Q : Option Value → am_H → Prop} : ax k_A_holds 15 ls st σ Q = ax k_A_holds 16 ls (.long 0 :: st) σ Q := ru_lconst f_A_holds_15 (by decide +kernel) rfl
theorem f_A_holds_16 : am_cd k_A_holds 16 = some ((some .boolean), .lcmp, (0, 0, 0, 0, 0, .null)) := rfl
theorem s_A_holds_16 {ls : am_L} {st : List Value} {σ : am_H} {Q : Option Value → am_H → Prop} {x y : Int64} : ax k_A_holds 16 ls (.long y :: .long x :: st) σ Q = ax k_A_holds 17 ls (.int (lg_cmp x y) :: st) σ Q := ru_pure f_A_holds_16 rfl rfl
theorem f_A_holds_17 : am_cd k_A_holds 17 = some ((some .boolean), .ifCond .eq 7, (24, 0, 0, 0, 0, .null)) := rfl
theorem s_A_holds_17 {ls : am_L} {st : List Value} {σ : am_H} {Q : Option Value → am_H → Prop} {x : Int32} : ax k_A_holds 17 ls (.int x :: st) σ Q = (if x = 0 then ax k_A_holds 24 ls st σ Q else ax k_A_holds 20 ls st σ Q) := (ru_if f_A_holds_17 rfl).trans (ru_i_eq _ _ _ _)
theorem f_A_holds_20 : am_cd k_A_holds 20 = some ((some .boolean), .iconst 1, (0, 0, 0, 0, 0, .null)) := rfl
theorem s_A_holds_20 {ls : am_L} {st : List Value} {σ : am_H} {Q : Option Value → am_H → Prop} : ax k_A_holds 20 ls st σ Q = ax k_A_holds 21 ls (.int 1 :: st) σ Q := ru_iconst f_A_holds_20 (by decide +kernel) rfl
theorem f_A_holds_21 : am_cd k_A_holds 21 = some ((some .boolean), .goto 4, (25, 0, 0, 0, 0, .null)) := rfl
theorem s_A_holds_21 {ls : am_L} {st : List Value} {σ : am_H} {Q : Option Value → am_H → Prop} : ax k_A_holds 21 ls st σ Q = ax k_A_holds 25 ls st σ Q := ru_goto f_A_holds_21
theorem f_A_holds_24 : am_cd k_A_holds 24 = some ((some .boolean), .iconst 0, (0, 0, 0, 0, 0, .null)) := rfl
theorem s_A_holds_24 {ls : am_L} {st : List Value} {σ : am_H} {Q : Option Value → am_H → Prop} : ax k_A_holds 24 ls st σ Q = ax k_A_holds 25 ls (.int 0 :: st) σ Q := ru_iconst f_A_holds_24 (by decide +kernel) rfl
theorem f_A_holds_25 : am_cd k_A_holds 25 = some ((some .boolean), .ireturn, (0, 0, 0, 0, 0, .null)) := rfl
theorem s_A_holds_25 {ls : am_L} {σ : am_H} {Q : Option Value → am_H → Prop} {v : Int32} : ax k_A_holds 25 ls ([.int v]) σ Q = (am_nar .boolean v = true ∧ Q (some (.int v)) σ) := ru_iret f_A_holds_25
theorem f_A_isPast_0 : am_cd k_A_isPast 0 = some ((some .boolean), .iload_n 1, (0, 0, 0, 0, 0, .null)) := rfl
theorem s_A_isPast_0 {a0 : Option Value} {st : List Value} {σ : am_H} {Q : Option Value → am_H → Prop} {x : Int32} : ax k_A_isPast 0 [a0, some (.int x)] st σ Q = ax k_A_isPast 1 [a0, some (.int x)] (.int x :: st) σ Q := ru_loc (q := (_, _)) f_A_isPast_0 rfl rfl rfl
theorem f_A_isPast_1 : am_cd k_A_isPast 1 = some ((some .boolean), .ifCond .lt 15, (16, 0, 0, 0, 0, .null)) := rfl
theorem s_A_isPast_1 {ls : am_L} {st : List Value} {σ : am_H} {Q : Option Value → am_H → Prop} {x : Int32} : ax k_A_isPast 1 ls (.int x :: st) σ Q = (if x < 0 then ax k_A_isPast 16 ls st σ Q else ax k_A_isPast 4 ls st σ Q) := (ru_if f_A_isPast_1 rfl).trans (ru_i_lt _ _ _ _)
theorem f_A_isPast_4 : am_cd k_A_isPast 4 = some ((some .boolean), .iload_n 1, (0, 0, 0, 0, 0, .null)) := rfl
theorem s_A_isPast_4 {a0 : Option Value} {st : List Value} {σ : am_H} {Q : Option Value → am_H → Prop} {x : Int32} : ax k_A_isPast 4 [a0, some (.int x)] st σ Q = ax k_A_isPast 5 [a0, some (.int x)] (.int x :: st) σ Q := ru_loc (q := (_, _)) f_A_isPast_4 rfl rfl rfl
theorem f_A_isPast_5 : am_cd k_A_isPast 5 = some ((some .boolean), .aload_n 0, (0, 0, 0, 0, 0, .null)) := rfl
theorem s_A_isPast_5 {a1 : Option Value} {st : List Value} {σ : am_H} {Q : Option Value → am_H → Prop} {x : Nat} : ax k_A_isPast 5 [some (.ref x), a1] st σ Q = ax k_A_isPast 6 [some (.ref x), a1] (.ref x :: st) σ Q := ru_loc (q := (_, _)) f_A_isPast_5 rfl rfl rfl
theorem f_A_isPast_6 : am_cd k_A_isPast 6 = some ((some .boolean), .getfield 82, (10, 11, 291, 0, 0, .null)) := rfl
theorem s_A_isPast_6 {ls : am_L} {st : List Value} {σ : am_H} {Q : Option Value → am_H → Prop} {a : Nat} : ax k_A_isPast 6 ls (.ref a :: st) σ Q = ax_f (am_fld σ a 10 11) (fun v => ax k_A_isPast 9 ls (v :: st) σ Q) := ru_getf f_A_isPast_6 rfl
theorem f_A_isPast_9 : am_cd k_A_isPast 9 = some ((some .boolean), .if_icmp .gt 7, (16, 0, 0, 0, 0, .null)) := rfl
theorem s_A_isPast_9 {ls : am_L} {st : List Value} {σ : am_H} {Q : Option Value → am_H → Prop} {x y : Int32} : ax k_A_isPast 9 ls (.int y :: .int x :: st) σ Q = (if y < x then ax k_A_isPast 16 ls st σ Q else ax k_A_isPast 12 ls st σ Q) := (ru_icmp f_A_isPast_9 rfl).trans (ru_i_gt _ _ _ _)
theorem f_A_isPast_12 : am_cd k_A_isPast 12 = some ((some .boolean), .iconst 1, (0, 0, 0, 0, 0, .null)) := rfl
theorem s_A_isPast_12 {ls : am_L} {st : List Value} {σ : am_H} {Q : Option Value → am_H → Prop} : ax k_A_isPast 12 ls st σ Q = ax k_A_isPast 13 ls (.int 1 :: st) σ Q := ru_iconst f_A_isPast_12 (by decide +kernel) rfl
theorem f_A_isPast_13 : am_cd k_A_isPast 13 = some ((some .boolean), .goto 4, (17, 0, 0, 0, 0, .null)) := rfl
theorem s_A_isPast_13 {ls : am_L} {st : List Value} {σ : am_H} {Q : Option Value → am_H → Prop} : ax k_A_isPast 13 ls st σ Q = ax k_A_isPast 17 ls st σ Q := ru_goto f_A_isPast_13
theorem f_A_isPast_16 : am_cd k_A_isPast 16 = some ((some .boolean), .iconst 0, (0, 0, 0, 0, 0, .null)) := rfl
theorem s_A_isPast_16 {ls : am_L} {st : List Value} {σ : am_H} {Q : Option Value → am_H → Prop} : ax k_A_isPast 16 ls st σ Q = ax k_A_isPast 17 ls (.int 0 :: st) σ Q := ru_iconst f_A_isPast_16 (by decide +kernel) rfl
theorem f_A_isPast_17 : am_cd k_A_isPast 17 = some ((some .boolean), .ireturn, (0, 0, 0, 0, 0, .null)) := rfl
theorem s_A_isPast_17 {ls : am_L} {σ : am_H} {Q : Option Value → am_H → Prop} {v : Int32} : ax k_A_isPast 17 ls ([.int v]) σ Q = (am_nar .boolean v = true ∧ Q (some (.int v)) σ) := ru_iret f_A_isPast_17
theorem f_A_canBeUsed_0 : am_cd k_A_canBeUsed 0 = some ((some .boolean), .aload_n 0, (0, 0, 0, 0, 0, .null)) := rfl
theorem s_A_canBeUsed_0 {a1 a2 a3 a4 : Option Value} {st : List Value} {σ : am_H} {Q : Option Value → am_H → Prop} {x : Nat} : ax k_A_canBeUsed 0 [some (.ref x), a1, a2, a3, a4] st σ Q = ax k_A_canBeUsed 1 [some (.ref x), a1, a2, a3, a4] (.ref x :: st) σ Q := ru_loc (q := (_, _)) f_A_canBeUsed_0 rfl rfl rfl
theorem f_A_canBeUsed_1 : am_cd k_A_canBeUsed 1 = some ((some .boolean), .getfield 19, (10, 1, 281, 0, 3, .null)) := rfl
theorem s_A_canBeUsed_1 {ls : am_L} {st : List Value} {σ : am_H} {Q : Option Value → am_H → Prop} {a : Nat} : ax k_A_canBeUsed 1 ls (.ref a :: st) σ Q = ax_f (am_fld σ a 10 1) (fun v => ax k_A_canBeUsed 4 ls (v :: st) σ Q) := ru_getf f_A_canBeUsed_1 rfl
theorem f_A_canBeUsed_4 : am_cd k_A_canBeUsed 4 = some ((some .boolean), .iload_n 1, (0, 0, 0, 0, 0, .null)) := rfl
theorem s_A_canBeUsed_4 {a0 a2 a3 a4 : Option Value} {st : List Value} {σ : am_H} {Q : Option Value → am_H → Prop} {x : Int32} : ax k_A_canBeUsed 4 [a0, some (.int x), a2, a3, a4] st σ Q = ax k_A_canBeUsed 5 [a0, some (.int x), a2, a3, a4] (.int x :: st) σ Q := ru_loc (q := (_, _)) f_A_canBeUsed_4 rfl rfl rfl
theorem f_A_canBeUsed_5 : am_cd k_A_canBeUsed 5 = some ((some .boolean), .invokevirtual 110, (1, 1, 419, 0, 0, .null)) := rfl
theorem s_A_canBeUsed_5 {ls : am_L} {st : List Value} {σ : am_H} {Q : Option Value → am_H → Prop} {p0 : Int32} {b : Nat} (hi : am_is σ b 0) (h8 : am_s8 st) : ax k_A_canBeUsed 5 ls (.int p0 :: .ref b :: st) σ Q = ax k_Album_isPicture 0 [some (.ref b), some (.int p0)] [] σ (ax_k k_A_canBeUsed 8 ls st Q) := ru_vir (M' := rk_Album_isPicture) f_A_canBeUsed_5 rfl rfl rfl rfl hi h8 rfl rfl rfl rfl rfl
theorem f_A_canBeUsed_8 : am_cd k_A_canBeUsed 8 = some ((some .boolean), .ifCond .eq 29, (37, 0, 0, 0, 0, .null)) := rfl
theorem s_A_canBeUsed_8 {ls : am_L} {st : List Value} {σ : am_H} {Q : Option Value → am_H → Prop} {x : Int32} : ax k_A_canBeUsed 8 ls (.int x :: st) σ Q = (if x = 0 then ax k_A_canBeUsed 37 ls st σ Q else ax k_A_canBeUsed 11 ls st σ Q) := (ru_if f_A_canBeUsed_8 rfl).trans (ru_i_eq _ _ _ _)
theorem f_A_canBeUsed_11 : am_cd k_A_canBeUsed 11 = some ((some .boolean), .iload_n 2, (0, 0, 0, 0, 0, .null)) := rfl
theorem s_A_canBeUsed_11 {a0 a1 a3 a4 : Option Value} {st : List Value} {σ : am_H} {Q : Option Value → am_H → Prop} {x : Int32} : ax k_A_canBeUsed 11 [a0, a1, some (.int x), a3, a4] st σ Q = ax k_A_canBeUsed 12 [a0, a1, some (.int x), a3, a4] (.int x :: st) σ Q := ru_loc (q := (_, _)) f_A_canBeUsed_11 rfl rfl rfl
theorem f_A_canBeUsed_12 : am_cd k_A_canBeUsed 12 = some ((some .boolean), .invokestatic 257, (101, 1, 727, 0, 10, .null)) := rfl
theorem s_A_canBeUsed_12 {ls : am_L} {st : List Value} {σ : am_H} {Q : Option Value → am_H → Prop} {p0 : Int32} (h8 : am_s8 st) : ax k_A_canBeUsed 12 ls (.int p0 :: st) σ Q = ax k_A_isLand 0 [some (.int p0)] [] σ (ax_k k_A_canBeUsed 15 ls st Q) := ru_sta (M' := rk_A_isLand) f_A_canBeUsed_12 rfl (by decide) rfl (by simp) rfl h8 rfl rfl rfl rfl rfl
theorem f_A_canBeUsed_15 : am_cd k_A_canBeUsed 15 = some ((some .boolean), .ifCond .eq 22, (37, 0, 0, 0, 0, .null)) := rfl
theorem s_A_canBeUsed_15 {ls : am_L} {st : List Value} {σ : am_H} {Q : Option Value → am_H → Prop} {x : Int32} : ax k_A_canBeUsed 15 ls (.int x :: st) σ Q = (if x = 0 then ax k_A_canBeUsed 37 ls st σ Q else ax k_A_canBeUsed 18 ls st σ Q) := (ru_if f_A_canBeUsed_15 rfl).trans (ru_i_eq _ _ _ _)
theorem f_A_canBeUsed_18 : am_cd k_A_canBeUsed 18 = some ((some .boolean), .iload_n 3, (0, 0, 0, 0, 0, .null)) := rfl
theorem s_A_canBeUsed_18 {a0 a1 a2 a4 : Option Value} {st : List Value} {σ : am_H} {Q : Option Value → am_H → Prop} {x : Int32} : ax k_A_canBeUsed 18 [a0, a1, a2, some (.int x), a4] st σ Q = ax k_A_canBeUsed 19 [a0, a1, a2, some (.int x), a4] (.int x :: st) σ Q := ru_loc (q := (_, _)) f_A_canBeUsed_18 rfl rfl rfl
theorem f_A_canBeUsed_19 : am_cd k_A_canBeUsed 19 = some ((some .boolean), .invokestatic 203, (102, 1, 728, 0, 10, .null)) := rfl
theorem s_A_canBeUsed_19 {ls : am_L} {st : List Value} {σ : am_H} {Q : Option Value → am_H → Prop} {p0 : Int32} (h8 : am_s8 st) : ax k_A_canBeUsed 19 ls (.int p0 :: st) σ Q = ax k_A_isUse 0 [some (.int p0)] [] σ (ax_k k_A_canBeUsed 22 ls st Q) := ru_sta (M' := rk_A_isUse) f_A_canBeUsed_19 rfl (by decide) rfl (by simp) rfl h8 rfl rfl rfl rfl rfl
theorem f_A_canBeUsed_22 : am_cd k_A_canBeUsed 22 = some ((some .boolean), .ifCond .eq 15, (37, 0, 0, 0, 0, .null)) := rfl
theorem s_A_canBeUsed_22 {ls : am_L} {st : List Value} {σ : am_H} {Q : Option Value → am_H → Prop} {x : Int32} : ax k_A_canBeUsed 22 ls (.int x :: st) σ Q = (if x = 0 then ax k_A_canBeUsed 37 ls st σ Q else ax k_A_canBeUsed 25 ls st σ Q) := (ru_if f_A_canBeUsed_22 rfl).trans (ru_i_eq _ _ _ _)
theorem f_A_canBeUsed_25 : am_cd k_A_canBeUsed 25 = some ((some .boolean), .iload 4, (0, 0, 0, 0, 0, .null)) := rfl
theorem s_A_canBeUsed_25 {a0 a1 a2 a3 : Option Value} {st : List Value} {σ : am_H} {Q : Option Value → am_H → Prop} {x : Int32} : ax k_A_canBeUsed 25 [a0, a1, a2, a3, some (.int x)] st σ Q = ax k_A_canBeUsed 27 [a0, a1, a2, a3, some (.int x)] (.int x :: st) σ Q := ru_loc (q := (_, _)) f_A_canBeUsed_25 rfl rfl rfl
theorem f_A_canBeUsed_27 : am_cd k_A_canBeUsed 27 = some ((some .boolean), .invokestatic 260, (103, 1, 729, 0, 10, .null)) := rfl
theorem s_A_canBeUsed_27 {ls : am_L} {st : List Value} {σ : am_H} {Q : Option Value → am_H → Prop} {p0 : Int32} (h8 : am_s8 st) : ax k_A_canBeUsed 27 ls (.int p0 :: st) σ Q = ax k_A_isSize 0 [some (.int p0)] [] σ (ax_k k_A_canBeUsed 30 ls st Q) := ru_sta (M' := rk_A_isSize) f_A_canBeUsed_27 rfl (by decide) rfl (by simp) rfl h8 rfl rfl rfl rfl rfl
theorem f_A_canBeUsed_30 : am_cd k_A_canBeUsed 30 = some ((some .boolean), .ifCond .eq 7, (37, 0, 0, 0, 0, .null)) := rfl
theorem s_A_canBeUsed_30 {ls : am_L} {st : List Value} {σ : am_H} {Q : Option Value → am_H → Prop} {x : Int32} : ax k_A_canBeUsed 30 ls (.int x :: st) σ Q = (if x = 0 then ax k_A_canBeUsed 37 ls st σ Q else ax k_A_canBeUsed 33 ls st σ Q) := (ru_if f_A_canBeUsed_30 rfl).trans (ru_i_eq _ _ _ _)
theorem f_A_canBeUsed_33 : am_cd k_A_canBeUsed 33 = some ((some .boolean), .iconst 1, (0, 0, 0, 0, 0, .null)) := rfl
theorem s_A_canBeUsed_33 {ls : am_L} {st : List Value} {σ : am_H} {Q : Option Value → am_H → Prop} : ax k_A_canBeUsed 33 ls st σ Q = ax k_A_canBeUsed 34 ls (.int 1 :: st) σ Q := ru_iconst f_A_canBeUsed_33 (by decide +kernel) rfl
theorem f_A_canBeUsed_34 : am_cd k_A_canBeUsed 34 = some ((some .boolean), .goto 4, (38, 0, 0, 0, 0, .null)) := rfl
theorem s_A_canBeUsed_34 {ls : am_L} {st : List Value} {σ : am_H} {Q : Option Value → am_H → Prop} : ax k_A_canBeUsed 34 ls st σ Q = ax k_A_canBeUsed 38 ls st σ Q := ru_goto f_A_canBeUsed_34
theorem f_A_canBeUsed_37 : am_cd k_A_canBeUsed 37 = some ((some .boolean), .iconst 0, (0, 0, 0, 0, 0, .null)) := rfl
theorem s_A_canBeUsed_37 {ls : am_L} {st : List Value} {σ : am_H} {Q : Option Value → am_H → Prop} : ax k_A_canBeUsed 37 ls st σ Q = ax k_A_canBeUsed 38 ls (.int 0 :: st) σ Q := ru_iconst f_A_canBeUsed_37 (by decide +kernel) rfl
theorem f_A_canBeUsed_38 : am_cd k_A_canBeUsed 38 = some ((some .boolean), .ireturn, (0, 0, 0, 0, 0, .null)) := rfl
theorem s_A_canBeUsed_38 {ls : am_L} {σ : am_H} {Q : Option Value → am_H → Prop} {v : Int32} : ax k_A_canBeUsed 38 ls ([.int v]) σ Q = (am_nar .boolean v = true ∧ Q (some (.int v)) σ) := ru_iret f_A_canBeUsed_38
theorem f_A_picturesWith_0 : am_cd k_A_picturesWith 0 = some ((some .long), .aload_n 0, (0, 0, 0, 0, 0, .null)) := rfl
theorem s_A_picturesWith_0 {a1 a2 a3 : Option Value} {st : List Value} {σ : am_H} {Q : Option Value → am_H → Prop} {x : Nat} : ax k_A_picturesWith 0 [some (.ref x), a1, a2, a3] st σ Q = ax k_A_picturesWith 1 [some (.ref x), a1, a2, a3] (.ref x :: st) σ Q := ru_loc (q := (_, _)) f_A_picturesWith_0 rfl rfl rfl
theorem f_A_picturesWith_1 : am_cd k_A_picturesWith 1 = some ((some .long), .getfield 26, (10, 2, 282, 0, 3, .null)) := rfl
theorem s_A_picturesWith_1 {ls : am_L} {st : List Value} {σ : am_H} {Q : Option Value → am_H → Prop} {a : Nat} : ax k_A_picturesWith 1 ls (.ref a :: st) σ Q = ax_f (am_fld σ a 10 2) (fun v => ax k_A_picturesWith 4 ls (v :: st) σ Q) := ru_getf f_A_picturesWith_1 rfl
theorem f_A_picturesWith_4 : am_cd k_A_picturesWith 4 = some ((some .long), .aload_n 0, (0, 0, 0, 0, 0, .null)) := rfl
theorem s_A_picturesWith_4 {a1 a2 a3 : Option Value} {st : List Value} {σ : am_H} {Q : Option Value → am_H → Prop} {x : Nat} : ax k_A_picturesWith 4 [some (.ref x), a1, a2, a3] st σ Q = ax k_A_picturesWith 5 [some (.ref x), a1, a2, a3] (.ref x :: st) σ Q := ru_loc (q := (_, _)) f_A_picturesWith_4 rfl rfl rfl
theorem f_A_picturesWith_5 : am_cd k_A_picturesWith 5 = some ((some .long), .getfield 10, (10, 0, 280, 0, 3, .null)) := rfl
theorem s_A_picturesWith_5 {ls : am_L} {st : List Value} {σ : am_H} {Q : Option Value → am_H → Prop} {a : Nat} : ax k_A_picturesWith 5 ls (.ref a :: st) σ Q = ax_f (am_fld σ a 10 0) (fun v => ax k_A_picturesWith 8 ls (v :: st) σ Q) := ru_getf f_A_picturesWith_5 rfl
theorem f_A_picturesWith_8 : am_cd k_A_picturesWith 8 = some ((some .long), .iload_n 1, (0, 0, 0, 0, 0, .null)) := rfl
theorem s_A_picturesWith_8 {a0 a2 a3 : Option Value} {st : List Value} {σ : am_H} {Q : Option Value → am_H → Prop} {x : Int32} : ax k_A_picturesWith 8 [a0, some (.int x), a2, a3] st σ Q = ax k_A_picturesWith 9 [a0, some (.int x), a2, a3] (.int x :: st) σ Q := ru_loc (q := (_, _)) f_A_picturesWith_8 rfl rfl rfl
theorem f_A_picturesWith_9 : am_cd k_A_picturesWith 9 = some ((some .long), .iload_n 2, (0, 0, 0, 0, 0, .null)) := rfl
theorem s_A_picturesWith_9 {a0 a1 a3 : Option Value} {st : List Value} {σ : am_H} {Q : Option Value → am_H → Prop} {x : Int32} : ax k_A_picturesWith 9 [a0, a1, some (.int x), a3] st σ Q = ax k_A_picturesWith 10 [a0, a1, some (.int x), a3] (.int x :: st) σ Q := ru_loc (q := (_, _)) f_A_picturesWith_9 rfl rfl rfl
theorem f_A_picturesWith_10 : am_cd k_A_picturesWith 10 = some ((some .long), .invokevirtual 263, (65, 2, 438, 0, 9, .null)) := rfl
theorem s_A_picturesWith_10 {ls : am_L} {st : List Value} {σ : am_H} {Q : Option Value → am_H → Prop} {p0 : Int32} {p1 : Int32} {b : Nat} (hi : am_is σ b 9) (h8 : am_s8 st) : ax k_A_picturesWith 10 ls (.int p1 :: .int p0 :: .ref b :: st) σ Q = ax k_WordTree_treeOf 0 [some (.ref b), some (.int p0), some (.int p1), none, none, none] [] σ (ax_k k_A_picturesWith 13 ls st Q) := ru_vir (M' := rk_WordTree_treeOf) f_A_picturesWith_10 rfl rfl rfl rfl hi h8 rfl rfl rfl rfl rfl
theorem f_A_picturesWith_13 : am_cd k_A_picturesWith 13 = some ((some .long), .iload_n 2, (0, 0, 0, 0, 0, .null)) := rfl
theorem s_A_picturesWith_13 {a0 a1 a3 : Option Value} {st : List Value} {σ : am_H} {Q : Option Value → am_H → Prop} {x : Int32} : ax k_A_picturesWith 13 [a0, a1, some (.int x), a3] st σ Q = ax k_A_picturesWith 14 [a0, a1, some (.int x), a3] (.int x :: st) σ Q := ru_loc (q := (_, _)) f_A_picturesWith_13 rfl rfl rfl
theorem f_A_picturesWith_14 : am_cd k_A_picturesWith 14 = some ((some .long), .iload_n 3, (0, 0, 0, 0, 0, .null)) := rfl
theorem s_A_picturesWith_14 {a0 a1 a2 : Option Value} {st : List Value} {σ : am_H} {Q : Option Value → am_H → Prop} {x : Int32} : ax k_A_picturesWith 14 [a0, a1, a2, some (.int x)] st σ Q = ax k_A_picturesWith 15 [a0, a1, a2, some (.int x)] (.int x :: st) σ Q := ru_loc (q := (_, _)) f_A_picturesWith_14 rfl rfl rfl
theorem f_A_picturesWith_15 : am_cd k_A_picturesWith 15 = some ((some .long), .invokevirtual 267, (11, 3, 442, 0, 1, .null)) := rfl
theorem s_A_picturesWith_15 {ls : am_L} {st : List Value} {σ : am_H} {Q : Option Value → am_H → Prop} {p0 : Int64} {p1 : Int32} {p2 : Int32} {b : Nat} (hi : am_is σ b 1) (h8 : am_s8 st) : ax k_A_picturesWith 15 ls (.int p2 :: .int p1 :: .long p0 :: .ref b :: st) σ Q = ax k_Captions_picturesWithOneOf 0 [some (.ref b), some (.long p0), none, some (.int p1), some (.int p2), none, none, none] [] σ (ax_k k_A_picturesWith 18 ls st Q) := ru_vir (M' := rk_Captions_picturesWithOneOf) f_A_picturesWith_15 rfl rfl rfl rfl hi h8 rfl rfl rfl rfl rfl
theorem f_A_picturesWith_18 : am_cd k_A_picturesWith 18 = some ((some .long), .lreturn, (0, 0, 0, 0, 0, .null)) := rfl
theorem s_A_picturesWith_18 {ls : am_L} {σ : am_H} {Q : Option Value → am_H → Prop} {v : Int64} : ax k_A_picturesWith 18 ls ([.long v]) σ Q = Q (some (.long v)) σ := ru_ret f_A_picturesWith_18 rfl rfl rfl rfl rfl rfl rfl
theorem f_A_textAgainst_0 : am_cd k_A_textAgainst 0 = some ((some .int), .aload_n 0, (0, 0, 0, 0, 0, .null)) := rfl
theorem s_A_textAgainst_0 {a1 a2 a3 a4 a5 a6 a7 a8 a9 : Option Value} {st : List Value} {σ : am_H} {Q : Option Value → am_H → Prop} {x : Nat} : ax k_A_textAgainst 0 [some (.ref x), a1, a2, a3, a4, a5, a6, a7, a8, a9] st σ Q = ax k_A_textAgainst 1 [some (.ref x), a1, a2, a3, a4, a5, a6, a7, a8, a9] (.ref x :: st) σ Q := ru_loc (q := (_, _)) f_A_textAgainst_0 rfl rfl rfl
theorem f_A_textAgainst_1 : am_cd k_A_textAgainst 1 = some ((some .int), .getfield 10, (10, 0, 280, 0, 3, .null)) := rfl
theorem s_A_textAgainst_1 {ls : am_L} {st : List Value} {σ : am_H} {Q : Option Value → am_H → Prop} {a : Nat} : ax k_A_textAgainst 1 ls (.ref a :: st) σ Q = ax_f (am_fld σ a 10 0) (fun v => ax k_A_textAgainst 4 ls (v :: st) σ Q) := ru_getf f_A_textAgainst_1 rfl
theorem f_A_textAgainst_4 : am_cd k_A_textAgainst 4 = some ((some .int), .iload 5, (0, 0, 0, 0, 0, .null)) := rfl
theorem s_A_textAgainst_4 {a0 a1 a2 a3 a4 a6 a7 a8 a9 : Option Value} {st : List Value} {σ : am_H} {Q : Option Value → am_H → Prop} {x : Int32} : ax k_A_textAgainst 4 [a0, a1, a2, a3, a4, some (.int x), a6, a7, a8, a9] st σ Q = ax k_A_textAgainst 6 [a0, a1, a2, a3, a4, some (.int x), a6, a7, a8, a9] (.int x :: st) σ Q := ru_loc (q := (_, _)) f_A_textAgainst_4 rfl rfl rfl
theorem f_A_textAgainst_6 : am_cd k_A_textAgainst 6 = some ((some .int), .aload_n 0, (0, 0, 0, 0, 0, .null)) := rfl
theorem s_A_textAgainst_6 {a1 a2 a3 a4 a5 a6 a7 a8 a9 : Option Value} {st : List Value} {σ : am_H} {Q : Option Value → am_H → Prop} {x : Nat} : ax k_A_textAgainst 6 [some (.ref x), a1, a2, a3, a4, a5, a6, a7, a8, a9] st σ Q = ax k_A_textAgainst 7 [some (.ref x), a1, a2, a3, a4, a5, a6, a7, a8, a9] (.ref x :: st) σ Q := ru_loc (q := (_, _)) f_A_textAgainst_6 rfl rfl rfl
theorem f_A_textAgainst_7 : am_cd k_A_textAgainst 7 = some ((some .int), .getfield 82, (10, 11, 291, 0, 0, .null)) := rfl
theorem s_A_textAgainst_7 {ls : am_L} {st : List Value} {σ : am_H} {Q : Option Value → am_H → Prop} {a : Nat} : ax k_A_textAgainst 7 ls (.ref a :: st) σ Q = ax_f (am_fld σ a 10 11) (fun v => ax k_A_textAgainst 10 ls (v :: st) σ Q) := ru_getf f_A_textAgainst_7 rfl
theorem f_A_textAgainst_10 : am_cd k_A_textAgainst 10 = some ((some .int), .invokevirtual 271, (64, 2, 734, 0, 9, .null)) := rfl
theorem s_A_textAgainst_10 {ls : am_L} {st : List Value} {σ : am_H} {Q : Option Value → am_H → Prop} {p0 : Int32} {p1 : Int32} {b : Nat} (hi : am_is σ b 9) (h8 : am_s8 st) : ax k_A_textAgainst 10 ls (.int p1 :: .int p0 :: .ref b :: st) σ Q = ax k_WordTree_chainOf 0 [some (.ref b), some (.int p0), some (.int p1)] [] σ (ax_k k_A_textAgainst 13 ls st Q) := ru_vir (M' := rk_WordTree_chainOf) f_A_textAgainst_10 rfl rfl rfl rfl hi h8 rfl rfl rfl rfl rfl
theorem f_A_textAgainst_13 : am_cd k_A_textAgainst 13 = some ((some .int), .lstore 6, (0, 0, 0, 0, 0, .null)) := rfl
theorem s_A_textAgainst_13 {a0 a1 a2 a3 a4 a5 a6 a7 a8 a9 : Option Value} {st : List Value} {σ : am_H} {Q : Option Value → am_H → Prop} {x : Int64} (hc : am_c2 a5 = false) : ax k_A_textAgainst 13 [a0, a1, a2, a3, a4, a5, a6, a7, a8, a9] (.long x :: st) σ Q = ax k_A_textAgainst 15 [a0, a1, a2, a3, a4, a5, some (.long x), none, a8, a9] st σ Q := ru_lstore f_A_textAgainst_13 (Nat.le_of_ble_eq_true rfl) (ru_st2 (Nat.le_of_ble_eq_true rfl) (am_clr_c2 hc rfl) rfl) rfl
theorem f_A_textAgainst_15 : am_cd k_A_textAgainst 15 = some ((some .int), .iconst 0, (0, 0, 0, 0, 0, .null)) := rfl
theorem s_A_textAgainst_15 {ls : am_L} {st : List Value} {σ : am_H} {Q : Option Value → am_H → Prop} : ax k_A_textAgainst 15 ls st σ Q = ax k_A_textAgainst 16 ls (.int 0 :: st) σ Q := ru_iconst f_A_textAgainst_15 (by decide +kernel) rfl
theorem f_A_textAgainst_16 : am_cd k_A_textAgainst 16 = some ((some .int), .istore 8, (0, 0, 0, 0, 0, .null)) := rfl
theorem s_A_textAgainst_16 {a0 a1 a2 a3 a4 a5 a6 a7 a8 a9 : Option Value} {st : List Value} {σ : am_H} {Q : Option Value → am_H → Prop} {x : Int32} (hc : am_c2 a7 = false) : ax k_A_textAgainst 16 [a0, a1, a2, a3, a4, a5, a6, a7, a8, a9] (.int x :: st) σ Q = ax k_A_textAgainst 18 [a0, a1, a2, a3, a4, a5, a6, a7, some (.int x), a9] st σ Q := ru_istore f_A_textAgainst_16 (Nat.le_of_ble_eq_true rfl) (ru_st1 (Nat.le_of_ble_eq_true rfl) (am_clr_c2 hc rfl) rfl) rfl
theorem f_A_textAgainst_18 : am_cd k_A_textAgainst 18 = some ((some .int), .iload 8, (0, 0, 0, 0, 0, .null)) := rfl
theorem s_A_textAgainst_18 {a0 a1 a2 a3 a4 a5 a6 a7 a9 : Option Value} {st : List Value} {σ : am_H} {Q : Option Value → am_H → Prop} {x : Int32} : ax k_A_textAgainst 18 [a0, a1, a2, a3, a4, a5, a6, a7, some (.int x), a9] st σ Q = ax k_A_textAgainst 20 [a0, a1, a2, a3, a4, a5, a6, a7, some (.int x), a9] (.int x :: st) σ Q := ru_loc (q := (_, _)) f_A_textAgainst_18 rfl rfl rfl
theorem f_A_textAgainst_20 : am_cd k_A_textAgainst 20 = some ((some .int), .iconst 3, (0, 0, 0, 0, 0, .null)) := rfl
theorem s_A_textAgainst_20 {ls : am_L} {st : List Value} {σ : am_H} {Q : Option Value → am_H → Prop} : ax k_A_textAgainst 20 ls st σ Q = ax k_A_textAgainst 21 ls (.int 3 :: st) σ Q := ru_iconst f_A_textAgainst_20 (by decide +kernel) rfl
theorem f_A_textAgainst_21 : am_cd k_A_textAgainst 21 = some ((some .int), .if_icmp .ge 47, (68, 0, 0, 0, 0, .null)) := rfl
theorem s_A_textAgainst_21 {ls : am_L} {st : List Value} {σ : am_H} {Q : Option Value → am_H → Prop} {x y : Int32} : ax k_A_textAgainst 21 ls (.int y :: .int x :: st) σ Q = (if x < y then ax k_A_textAgainst 24 ls st σ Q else ax k_A_textAgainst 68 ls st σ Q) := (ru_icmp f_A_textAgainst_21 rfl).trans (ru_i_ge _ _ _ _)
theorem f_A_textAgainst_24 : am_cd k_A_textAgainst 24 = some ((some .int), .aload_n 0, (0, 0, 0, 0, 0, .null)) := rfl
theorem s_A_textAgainst_24 {a1 a2 a3 a4 a5 a6 a7 a8 a9 : Option Value} {st : List Value} {σ : am_H} {Q : Option Value → am_H → Prop} {x : Nat} : ax k_A_textAgainst 24 [some (.ref x), a1, a2, a3, a4, a5, a6, a7, a8, a9] st σ Q = ax k_A_textAgainst 25 [some (.ref x), a1, a2, a3, a4, a5, a6, a7, a8, a9] (.ref x :: st) σ Q := ru_loc (q := (_, _)) f_A_textAgainst_24 rfl rfl rfl
theorem f_A_textAgainst_25 : am_cd k_A_textAgainst 25 = some ((some .int), .getfield 57, (10, 7, 287, 0, 3, .null)) := rfl
theorem s_A_textAgainst_25 {ls : am_L} {st : List Value} {σ : am_H} {Q : Option Value → am_H → Prop} {a : Nat} : ax k_A_textAgainst 25 ls (.ref a :: st) σ Q = ax_f (am_fld σ a 10 7) (fun v => ax k_A_textAgainst 28 ls (v :: st) σ Q) := ru_getf f_A_textAgainst_25 rfl
theorem f_A_textAgainst_28 : am_cd k_A_textAgainst 28 = some ((some .int), .iload_n 1, (0, 0, 0, 0, 0, .null)) := rfl
theorem s_A_textAgainst_28 {a0 a2 a3 a4 a5 a6 a7 a8 a9 : Option Value} {st : List Value} {σ : am_H} {Q : Option Value → am_H → Prop} {x : Int32} : ax k_A_textAgainst 28 [a0, some (.int x), a2, a3, a4, a5, a6, a7, a8, a9] st σ Q = ax k_A_textAgainst 29 [a0, some (.int x), a2, a3, a4, a5, a6, a7, a8, a9] (.int x :: st) σ Q := ru_loc (q := (_, _)) f_A_textAgainst_28 rfl rfl rfl
theorem f_A_textAgainst_29 : am_cd k_A_textAgainst 29 = some ((some .int), .iload 8, (0, 0, 0, 0, 0, .null)) := rfl
theorem s_A_textAgainst_29 {a0 a1 a2 a3 a4 a5 a6 a7 a9 : Option Value} {st : List Value} {σ : am_H} {Q : Option Value → am_H → Prop} {x : Int32} : ax k_A_textAgainst 29 [a0, a1, a2, a3, a4, a5, a6, a7, some (.int x), a9] st σ Q = ax k_A_textAgainst 31 [a0, a1, a2, a3, a4, a5, a6, a7, some (.int x), a9] (.int x :: st) σ Q := ru_loc (q := (_, _)) f_A_textAgainst_29 rfl rfl rfl
theorem f_A_textAgainst_31 : am_cd k_A_textAgainst 31 = some ((some .int), .invokevirtual 274, (53, 2, 735, 0, 6, .null)) := rfl
theorem s_A_textAgainst_31 {ls : am_L} {st : List Value} {σ : am_H} {Q : Option Value → am_H → Prop} {p0 : Int32} {p1 : Int32} {b : Nat} (hi : am_is σ b 6) (h8 : am_s8 st) : ax k_A_textAgainst 31 ls (.int p1 :: .int p0 :: .ref b :: st) σ Q = ax k_Shelf_textAt 0 [some (.ref b), some (.int p0), some (.int p1)] [] σ (ax_k k_A_textAgainst 34 ls st Q) := ru_vir (M' := rk_Shelf_textAt) f_A_textAgainst_31 rfl rfl rfl rfl hi h8 rfl rfl rfl rfl rfl
theorem f_A_textAgainst_34 : am_cd k_A_textAgainst 34 = some ((some .int), .astore 9, (0, 0, 0, 0, 0, .null)) := rfl
theorem s_A_textAgainst_34 {a0 a1 a2 a3 a4 a5 a6 a7 a8 a9 : Option Value} {st : List Value} {σ : am_H} {Q : Option Value → am_H → Prop} {x : Nat} (hc : am_c2 a8 = false) : ax k_A_textAgainst 34 [a0, a1, a2, a3, a4, a5, a6, a7, a8, a9] (.ref x :: st) σ Q = ax k_A_textAgainst 36 [a0, a1, a2, a3, a4, a5, a6, a7, a8, some (.ref x)] st σ Q := ru_astore f_A_textAgainst_34 (Nat.le_of_ble_eq_true rfl) (ru_st1 (Nat.le_of_ble_eq_true rfl) (am_clr_c2 hc rfl) rfl) rfl
theorem s_A_textAgainst_34n {a0 a1 a2 a3 a4 a5 a6 a7 a8 a9 : Option Value} {st : List Value} {σ : am_H} {Q : Option Value → am_H → Prop} (hc : am_c2 a8 = false) : ax k_A_textAgainst 34 [a0, a1, a2, a3, a4, a5, a6, a7, a8, a9] (.null :: st) σ Q = ax k_A_textAgainst 36 [a0, a1, a2, a3, a4, a5, a6, a7, a8, some (.null)] st σ Q := ru_astoreN f_A_textAgainst_34 (Nat.le_of_ble_eq_true rfl) (ru_st1 (Nat.le_of_ble_eq_true rfl) (am_clr_c2 hc rfl) rfl) rfl
theorem f_A_textAgainst_36 : am_cd k_A_textAgainst 36 = some ((some .int), .aload 9, (0, 0, 0, 0, 0, .null)) := rfl
theorem s_A_textAgainst_36 {a0 a1 a2 a3 a4 a5 a6 a7 a8 : Option Value} {st : List Value} {σ : am_H} {Q : Option Value → am_H → Prop} {x : Nat} : ax k_A_textAgainst 36 [a0, a1, a2, a3, a4, a5, a6, a7, a8, some (.ref x)] st σ Q = ax k_A_textAgainst 38 [a0, a1, a2, a3, a4, a5, a6, a7, a8, some (.ref x)] (.ref x :: st) σ Q := ru_loc (q := (_, _)) f_A_textAgainst_36 rfl rfl rfl
theorem s_A_textAgainst_36n {a0 a1 a2 a3 a4 a5 a6 a7 a8 : Option Value} {st : List Value} {σ : am_H} {Q : Option Value → am_H → Prop} : ax k_A_textAgainst 36 [a0, a1, a2, a3, a4, a5, a6, a7, a8, some .null] st σ Q = ax k_A_textAgainst 38 [a0, a1, a2, a3, a4, a5, a6, a7, a8, some .null] (.null :: st) σ Q := ru_loc (q := (_, _)) f_A_textAgainst_36 rfl rfl rfl
theorem f_A_textAgainst_38 : am_cd k_A_textAgainst 38 = some ((some .int), .ifnull 24, (62, 0, 0, 0, 0, .null)) := rfl
theorem s_A_textAgainst_38n {ls : am_L} {st : List Value} {σ : am_H} {Q : Option Value → am_H → Prop} : ax k_A_textAgainst 38 ls (.null :: st) σ Q = ax k_A_textAgainst 62 ls st σ Q := ru_br (q := (_, _)) f_A_textAgainst_38 rfl rfl rfl
theorem s_A_textAgainst_38 {ls : am_L} {st : List Value} {σ : am_H} {Q : Option Value → am_H → Prop} {a : Nat} : ax k_A_textAgainst 38 ls (.ref a :: st) σ Q = ax k_A_textAgainst 41 ls st σ Q := ru_br (q := (_, _)) f_A_textAgainst_38 rfl rfl rfl
theorem f_A_textAgainst_41 : am_cd k_A_textAgainst 41 = some ((some .int), .aload 9, (0, 0, 0, 0, 0, .null)) := rfl
theorem s_A_textAgainst_41 {a0 a1 a2 a3 a4 a5 a6 a7 a8 : Option Value} {st : List Value} {σ : am_H} {Q : Option Value → am_H → Prop} {x : Nat} : ax k_A_textAgainst 41 [a0, a1, a2, a3, a4, a5, a6, a7, a8, some (.ref x)] st σ Q = ax k_A_textAgainst 43 [a0, a1, a2, a3, a4, a5, a6, a7, a8, some (.ref x)] (.ref x :: st) σ Q := ru_loc (q := (_, _)) f_A_textAgainst_41 rfl rfl rfl
theorem s_A_textAgainst_41n {a0 a1 a2 a3 a4 a5 a6 a7 a8 : Option Value} {st : List Value} {σ : am_H} {Q : Option Value → am_H → Prop} : ax k_A_textAgainst 41 [a0, a1, a2, a3, a4, a5, a6, a7, a8, some .null] st σ Q = ax k_A_textAgainst 43 [a0, a1, a2, a3, a4, a5, a6, a7, a8, some .null] (.null :: st) σ Q := ru_loc (q := (_, _)) f_A_textAgainst_41 rfl rfl rfl
theorem f_A_textAgainst_43 : am_cd k_A_textAgainst 43 = some ((some .int), .iload_n 2, (0, 0, 0, 0, 0, .null)) := rfl
theorem s_A_textAgainst_43 {a0 a1 a3 a4 a5 a6 a7 a8 a9 : Option Value} {st : List Value} {σ : am_H} {Q : Option Value → am_H → Prop} {x : Int32} : ax k_A_textAgainst 43 [a0, a1, some (.int x), a3, a4, a5, a6, a7, a8, a9] st σ Q = ax k_A_textAgainst 44 [a0, a1, some (.int x), a3, a4, a5, a6, a7, a8, a9] (.int x :: st) σ Q := ru_loc (q := (_, _)) f_A_textAgainst_43 rfl rfl rfl
theorem f_A_textAgainst_44 : am_cd k_A_textAgainst 44 = some ((some .int), .iload_n 3, (0, 0, 0, 0, 0, .null)) := rfl
theorem s_A_textAgainst_44 {a0 a1 a2 a4 a5 a6 a7 a8 a9 : Option Value} {st : List Value} {σ : am_H} {Q : Option Value → am_H → Prop} {x : Int32} : ax k_A_textAgainst 44 [a0, a1, a2, some (.int x), a4, a5, a6, a7, a8, a9] st σ Q = ax k_A_textAgainst 45 [a0, a1, a2, some (.int x), a4, a5, a6, a7, a8, a9] (.int x :: st) σ Q := ru_loc (q := (_, _)) f_A_textAgainst_44 rfl rfl rfl
theorem f_A_textAgainst_45 : am_cd k_A_textAgainst 45 = some ((some .int), .iload 4, (0, 0, 0, 0, 0, .null)) := rfl
theorem s_A_textAgainst_45 {a0 a1 a2 a3 a5 a6 a7 a8 a9 : Option Value} {st : List Value} {σ : am_H} {Q : Option Value → am_H → Prop} {x : Int32} : ax k_A_textAgainst 45 [a0, a1, a2, a3, some (.int x), a5, a6, a7, a8, a9] st σ Q = ax k_A_textAgainst 47 [a0, a1, a2, a3, some (.int x), a5, a6, a7, a8, a9] (.int x :: st) σ Q := ru_loc (q := (_, _)) f_A_textAgainst_45 rfl rfl rfl
theorem f_A_textAgainst_47 : am_cd k_A_textAgainst 47 = some ((some .int), .aload_n 0, (0, 0, 0, 0, 0, .null)) := rfl
theorem s_A_textAgainst_47 {a1 a2 a3 a4 a5 a6 a7 a8 a9 : Option Value} {st : List Value} {σ : am_H} {Q : Option Value → am_H → Prop} {x : Nat} : ax k_A_textAgainst 47 [some (.ref x), a1, a2, a3, a4, a5, a6, a7, a8, a9] st σ Q = ax k_A_textAgainst 48 [some (.ref x), a1, a2, a3, a4, a5, a6, a7, a8, a9] (.ref x :: st) σ Q := ru_loc (q := (_, _)) f_A_textAgainst_47 rfl rfl rfl
theorem f_A_textAgainst_48 : am_cd k_A_textAgainst 48 = some ((some .int), .getfield 82, (10, 11, 291, 0, 0, .null)) := rfl
theorem s_A_textAgainst_48 {ls : am_L} {st : List Value} {σ : am_H} {Q : Option Value → am_H → Prop} {a : Nat} : ax k_A_textAgainst 48 ls (.ref a :: st) σ Q = ax_f (am_fld σ a 10 11) (fun v => ax k_A_textAgainst 51 ls (v :: st) σ Q) := ru_getf f_A_textAgainst_48 rfl
theorem f_A_textAgainst_51 : am_cd k_A_textAgainst 51 = some ((some .int), .lload 6, (0, 0, 0, 0, 0, .null)) := rfl
theorem s_A_textAgainst_51 {a0 a1 a2 a3 a4 a5 a7 a8 a9 : Option Value} {st : List Value} {σ : am_H} {Q : Option Value → am_H → Prop} {x : Int64} : ax k_A_textAgainst 51 [a0, a1, a2, a3, a4, a5, some (.long x), a7, a8, a9] st σ Q = ax k_A_textAgainst 53 [a0, a1, a2, a3, a4, a5, some (.long x), a7, a8, a9] (.long x :: st) σ Q := ru_loc (q := (_, _)) f_A_textAgainst_51 rfl rfl rfl
theorem f_A_textAgainst_53 : am_cd k_A_textAgainst 53 = some ((some .int), .invokevirtual 278, (58, 5, 739, 0, 8, .null)) := rfl
theorem s_A_textAgainst_53 {ls : am_L} {st : List Value} {σ : am_H} {Q : Option Value → am_H → Prop} {p0 : Int32} {p1 : Int32} {p2 : Int32} {p3 : Int32} {p4 : Int64} {b : Nat} (hi : am_is σ b 8) (h8 : am_s8 st) : ax k_A_textAgainst 53 ls (.long p4 :: .int p3 :: .int p2 :: .int p1 :: .int p0 :: .ref b :: st) σ Q = ax k_Terms_allow 0 [some (.ref b), some (.int p0), some (.int p1), some (.int p2), some (.int p3), some (.long p4), none] [] σ (ax_k k_A_textAgainst 56 ls st Q) := ru_vir (M' := rk_Terms_allow) f_A_textAgainst_53 rfl rfl rfl rfl hi h8 rfl rfl rfl rfl rfl
theorem f_A_textAgainst_56 : am_cd k_A_textAgainst 56 = some ((some .int), .ifCond .ne 6, (62, 0, 0, 0, 0, .null)) := rfl
theorem s_A_textAgainst_56 {ls : am_L} {st : List Value} {σ : am_H} {Q : Option Value → am_H → Prop} {x : Int32} : ax k_A_textAgainst 56 ls (.int x :: st) σ Q = (if x = 0 then ax k_A_textAgainst 59 ls st σ Q else ax k_A_textAgainst 62 ls st σ Q) := (ru_if f_A_textAgainst_56 rfl).trans (ru_i_ne _ _ _ _)
theorem f_A_textAgainst_59 : am_cd k_A_textAgainst 59 = some ((some .int), .iload 8, (0, 0, 0, 0, 0, .null)) := rfl
theorem s_A_textAgainst_59 {a0 a1 a2 a3 a4 a5 a6 a7 a9 : Option Value} {st : List Value} {σ : am_H} {Q : Option Value → am_H → Prop} {x : Int32} : ax k_A_textAgainst 59 [a0, a1, a2, a3, a4, a5, a6, a7, some (.int x), a9] st σ Q = ax k_A_textAgainst 61 [a0, a1, a2, a3, a4, a5, a6, a7, some (.int x), a9] (.int x :: st) σ Q := ru_loc (q := (_, _)) f_A_textAgainst_59 rfl rfl rfl
theorem f_A_textAgainst_61 : am_cd k_A_textAgainst 61 = some ((some .int), .ireturn, (0, 0, 0, 0, 0, .null)) := rfl
theorem s_A_textAgainst_61 {ls : am_L} {σ : am_H} {Q : Option Value → am_H → Prop} {v : Int32} : ax k_A_textAgainst 61 ls [.int v] σ Q = Q (some (.int v)) σ := ru_iretI f_A_textAgainst_61
theorem f_A_textAgainst_62 : am_cd k_A_textAgainst 62 = some ((some .int), .iinc 8 1, (0, 0, 0, 0, 0, .null)) := rfl
theorem s_A_textAgainst_62 {a0 a1 a2 a3 a4 a5 a6 a7 a9 : Option Value} {st : List Value} {σ : am_H} {Q : Option Value → am_H → Prop} {x : Int32} (hc : am_c2 a7 = false) : ax k_A_textAgainst 62 [a0, a1, a2, a3, a4, a5, a6, a7, some (.int x), a9] st σ Q = ax k_A_textAgainst 65 [a0, a1, a2, a3, a4, a5, a6, a7, some (.int (x + 1)), a9] st σ Q := ru_iinc f_A_textAgainst_62 rfl (Nat.le_of_ble_eq_true rfl) (by decide +kernel) (ru_st1 (Nat.le_of_ble_eq_true rfl) (am_clr_c2 hc rfl) rfl) rfl
theorem f_A_textAgainst_65 : am_cd k_A_textAgainst 65 = some ((some .int), .goto (-47), (18, 0, 0, 0, 0, .null)) := rfl
theorem s_A_textAgainst_65 {ls : am_L} {st : List Value} {σ : am_H} {Q : Option Value → am_H → Prop} : ax k_A_textAgainst 65 ls st σ Q = ax k_A_textAgainst 18 ls st σ Q := ru_goto f_A_textAgainst_65
theorem f_A_textAgainst_68 : am_cd k_A_textAgainst 68 = some ((some .int), .iconst (-1), (0, 0, 0, 0, 0, .null)) := rfl
theorem s_A_textAgainst_68 {ls : am_L} {st : List Value} {σ : am_H} {Q : Option Value → am_H → Prop} : ax k_A_textAgainst 68 ls st σ Q = ax k_A_textAgainst 69 ls (.int (-1) :: st) σ Q := ru_iconst f_A_textAgainst_68 (by decide +kernel) rfl
theorem f_A_textAgainst_69 : am_cd k_A_textAgainst 69 = some ((some .int), .ireturn, (0, 0, 0, 0, 0, .null)) := rfl
theorem s_A_textAgainst_69 {ls : am_L} {σ : am_H} {Q : Option Value → am_H → Prop} {v : Int32} : ax k_A_textAgainst 69 ls [.int v] σ Q = Q (some (.int v)) σ := ru_iretI f_A_textAgainst_69
theorem f_A_personAgainst_0 : am_cd k_A_personAgainst 0 = some ((some .int), .aload_n 0, (0, 0, 0, 0, 0, .null)) := rfl
theorem s_A_personAgainst_0 {a1 a2 a3 : Option Value} {st : List Value} {σ : am_H} {Q : Option Value → am_H → Prop} {x : Nat} : ax k_A_personAgainst 0 [some (.ref x), a1, a2, a3] st σ Q = ax k_A_personAgainst 1 [some (.ref x), a1, a2, a3] (.ref x :: st) σ Q := ru_loc (q := (_, _)) f_A_personAgainst_0 rfl rfl rfl
theorem f_A_personAgainst_1 : am_cd k_A_personAgainst 1 = some ((some .int), .getfield 19, (10, 1, 281, 0, 3, .null)) := rfl
theorem s_A_personAgainst_1 {ls : am_L} {st : List Value} {σ : am_H} {Q : Option Value → am_H → Prop} {a : Nat} : ax k_A_personAgainst 1 ls (.ref a :: st) σ Q = ax_f (am_fld σ a 10 1) (fun v => ax k_A_personAgainst 4 ls (v :: st) σ Q) := ru_getf f_A_personAgainst_1 rfl
theorem f_A_personAgainst_4 : am_cd k_A_personAgainst 4 = some ((some .int), .iload_n 1, (0, 0, 0, 0, 0, .null)) := rfl
theorem s_A_personAgainst_4 {a0 a2 a3 : Option Value} {st : List Value} {σ : am_H} {Q : Option Value → am_H → Prop} {x : Int32} : ax k_A_personAgainst 4 [a0, some (.int x), a2, a3] st σ Q = ax k_A_personAgainst 5 [a0, some (.int x), a2, a3] (.int x :: st) σ Q := ru_loc (q := (_, _)) f_A_personAgainst_4 rfl rfl rfl
theorem f_A_personAgainst_5 : am_cd k_A_personAgainst 5 = some ((some .int), .invokevirtual 284, (4, 1, 748, 0, 0, .null)) := rfl
theorem s_A_personAgainst_5 {ls : am_L} {st : List Value} {σ : am_H} {Q : Option Value → am_H → Prop} {p0 : Int32} {b : Nat} (hi : am_is σ b 0) (h8 : am_s8 st) : ax k_A_personAgainst 5 ls (.int p0 :: .ref b :: st) σ Q = ax k_Album_personsOn 0 [some (.ref b), some (.int p0)] [] σ (ax_k k_A_personAgainst 8 ls st Q) := ru_vir (M' := rk_Album_personsOn) f_A_personAgainst_5 rfl rfl rfl rfl hi h8 rfl rfl rfl rfl rfl
theorem f_A_personAgainst_8 : am_cd k_A_personAgainst 8 = some ((some .int), .istore_n 2, (0, 0, 0, 0, 0, .null)) := rfl
theorem s_A_personAgainst_8 {a0 a1 a2 a3 : Option Value} {st : List Value} {σ : am_H} {Q : Option Value → am_H → Prop} {x : Int32} (hc : am_c2 a1 = false) : ax k_A_personAgainst 8 [a0, a1, a2, a3] (.int x :: st) σ Q = ax k_A_personAgainst 9 [a0, a1, some (.int x), a3] st σ Q := ru_istore_n f_A_personAgainst_8 (Nat.le_of_ble_eq_true rfl) (ru_st1 (Nat.le_of_ble_eq_true rfl) (am_clr_c2 hc rfl) rfl) rfl
theorem f_A_personAgainst_9 : am_cd k_A_personAgainst 9 = some ((some .int), .iconst 0, (0, 0, 0, 0, 0, .null)) := rfl
theorem s_A_personAgainst_9 {ls : am_L} {st : List Value} {σ : am_H} {Q : Option Value → am_H → Prop} : ax k_A_personAgainst 9 ls st σ Q = ax k_A_personAgainst 10 ls (.int 0 :: st) σ Q := ru_iconst f_A_personAgainst_9 (by decide +kernel) rfl
theorem f_A_personAgainst_10 : am_cd k_A_personAgainst 10 = some ((some .int), .istore_n 3, (0, 0, 0, 0, 0, .null)) := rfl
theorem s_A_personAgainst_10 {a0 a1 a2 a3 : Option Value} {st : List Value} {σ : am_H} {Q : Option Value → am_H → Prop} {x : Int32} (hc : am_c2 a2 = false) : ax k_A_personAgainst 10 [a0, a1, a2, a3] (.int x :: st) σ Q = ax k_A_personAgainst 11 [a0, a1, a2, some (.int x)] st σ Q := ru_istore_n f_A_personAgainst_10 (Nat.le_of_ble_eq_true rfl) (ru_st1 (Nat.le_of_ble_eq_true rfl) (am_clr_c2 hc rfl) rfl) rfl
theorem f_A_personAgainst_11 : am_cd k_A_personAgainst 11 = some ((some .int), .iload_n 3, (0, 0, 0, 0, 0, .null)) := rfl
theorem s_A_personAgainst_11 {a0 a1 a2 : Option Value} {st : List Value} {σ : am_H} {Q : Option Value → am_H → Prop} {x : Int32} : ax k_A_personAgainst 11 [a0, a1, a2, some (.int x)] st σ Q = ax k_A_personAgainst 12 [a0, a1, a2, some (.int x)] (.int x :: st) σ Q := ru_loc (q := (_, _)) f_A_personAgainst_11 rfl rfl rfl
theorem f_A_personAgainst_12 : am_cd k_A_personAgainst 12 = some ((some .int), .bipush 16, (0, 0, 0, 0, 0, .null)) := rfl
theorem s_A_personAgainst_12 {ls : am_L} {st : List Value} {σ : am_H} {Q : Option Value → am_H → Prop} : ax k_A_personAgainst 12 ls st σ Q = ax k_A_personAgainst 14 ls (.int 16 :: st) σ Q := ru_bipush f_A_personAgainst_12 (by decide +kernel) rfl
theorem f_A_personAgainst_14 : am_cd k_A_personAgainst 14 = some ((some .int), .if_icmp .ge 36, (50, 0, 0, 0, 0, .null)) := rfl
theorem s_A_personAgainst_14 {ls : am_L} {st : List Value} {σ : am_H} {Q : Option Value → am_H → Prop} {x y : Int32} : ax k_A_personAgainst 14 ls (.int y :: .int x :: st) σ Q = (if x < y then ax k_A_personAgainst 17 ls st σ Q else ax k_A_personAgainst 50 ls st σ Q) := (ru_icmp f_A_personAgainst_14 rfl).trans (ru_i_ge _ _ _ _)
theorem f_A_personAgainst_17 : am_cd k_A_personAgainst 17 = some ((some .int), .iload_n 2, (0, 0, 0, 0, 0, .null)) := rfl
theorem s_A_personAgainst_17 {a0 a1 a3 : Option Value} {st : List Value} {σ : am_H} {Q : Option Value → am_H → Prop} {x : Int32} : ax k_A_personAgainst 17 [a0, a1, some (.int x), a3] st σ Q = ax k_A_personAgainst 18 [a0, a1, some (.int x), a3] (.int x :: st) σ Q := ru_loc (q := (_, _)) f_A_personAgainst_17 rfl rfl rfl
theorem f_A_personAgainst_18 : am_cd k_A_personAgainst 18 = some ((some .int), .i2l, (0, 0, 0, 0, 0, .null)) := rfl
theorem s_A_personAgainst_18 {ls : am_L} {st : List Value} {σ : am_H} {Q : Option Value → am_H → Prop} {x : Int32} : ax k_A_personAgainst 18 ls (.int x :: st) σ Q = ax k_A_personAgainst 19 ls (.long x.toInt64 :: st) σ Q := ru_pure f_A_personAgainst_18 rfl rfl
theorem f_A_personAgainst_19 : am_cd k_A_personAgainst 19 = some ((some .int), .iload_n 3, (0, 0, 0, 0, 0, .null)) := rfl
theorem s_A_personAgainst_19 {a0 a1 a2 : Option Value} {st : List Value} {σ : am_H} {Q : Option Value → am_H → Prop} {x : Int32} : ax k_A_personAgainst 19 [a0, a1, a2, some (.int x)] st σ Q = ax k_A_personAgainst 20 [a0, a1, a2, some (.int x)] (.int x :: st) σ Q := ru_loc (q := (_, _)) f_A_personAgainst_19 rfl rfl rfl
theorem f_A_personAgainst_20 : am_cd k_A_personAgainst 20 = some ((some .int), .invokestatic 124, (104, 2, 457, 0, 10, .null)) := rfl
theorem s_A_personAgainst_20 {ls : am_L} {st : List Value} {σ : am_H} {Q : Option Value → am_H → Prop} {p0 : Int64} {p1 : Int32} (h8 : am_s8 st) : ax k_A_personAgainst 20 ls (.int p1 :: .long p0 :: st) σ Q = ax k_A_holds 0 [some (.long p0), none, some (.int p1)] [] σ (ax_k k_A_personAgainst 23 ls st Q) := ru_sta (M' := rk_A_holds) f_A_personAgainst_20 rfl (by decide) rfl (by simp) rfl h8 rfl rfl rfl rfl rfl
theorem f_A_personAgainst_23 : am_cd k_A_personAgainst 23 = some ((some .int), .ifCond .eq 21, (44, 0, 0, 0, 0, .null)) := rfl
theorem s_A_personAgainst_23 {ls : am_L} {st : List Value} {σ : am_H} {Q : Option Value → am_H → Prop} {x : Int32} : ax k_A_personAgainst 23 ls (.int x :: st) σ Q = (if x = 0 then ax k_A_personAgainst 44 ls st σ Q else ax k_A_personAgainst 26 ls st σ Q) := (ru_if f_A_personAgainst_23 rfl).trans (ru_i_eq _ _ _ _)
theorem f_A_personAgainst_26 : am_cd k_A_personAgainst 26 = some ((some .int), .aload_n 0, (0, 0, 0, 0, 0, .null)) := rfl
theorem s_A_personAgainst_26 {a1 a2 a3 : Option Value} {st : List Value} {σ : am_H} {Q : Option Value → am_H → Prop} {x : Nat} : ax k_A_personAgainst 26 [some (.ref x), a1, a2, a3] st σ Q = ax k_A_personAgainst 27 [some (.ref x), a1, a2, a3] (.ref x :: st) σ Q := ru_loc (q := (_, _)) f_A_personAgainst_26 rfl rfl rfl
theorem f_A_personAgainst_27 : am_cd k_A_personAgainst 27 = some ((some .int), .getfield 35, (10, 3, 283, 0, 3, .null)) := rfl
theorem s_A_personAgainst_27 {ls : am_L} {st : List Value} {σ : am_H} {Q : Option Value → am_H → Prop} {a : Nat} : ax k_A_personAgainst 27 ls (.ref a :: st) σ Q = ax_f (am_fld σ a 10 3) (fun v => ax k_A_personAgainst 30 ls (v :: st) σ Q) := ru_getf f_A_personAgainst_27 rfl
theorem f_A_personAgainst_30 : am_cd k_A_personAgainst 30 = some ((some .int), .iload_n 3, (0, 0, 0, 0, 0, .null)) := rfl
theorem s_A_personAgainst_30 {a0 a1 a2 : Option Value} {st : List Value} {σ : am_H} {Q : Option Value → am_H → Prop} {x : Int32} : ax k_A_personAgainst 30 [a0, a1, a2, some (.int x)] st σ Q = ax k_A_personAgainst 31 [a0, a1, a2, some (.int x)] (.int x :: st) σ Q := ru_loc (q := (_, _)) f_A_personAgainst_30 rfl rfl rfl
theorem f_A_personAgainst_31 : am_cd k_A_personAgainst 31 = some ((some .int), .aload_n 0, (0, 0, 0, 0, 0, .null)) := rfl
theorem s_A_personAgainst_31 {a1 a2 a3 : Option Value} {st : List Value} {σ : am_H} {Q : Option Value → am_H → Prop} {x : Nat} : ax k_A_personAgainst 31 [some (.ref x), a1, a2, a3] st σ Q = ax k_A_personAgainst 32 [some (.ref x), a1, a2, a3] (.ref x :: st) σ Q := ru_loc (q := (_, _)) f_A_personAgainst_31 rfl rfl rfl
theorem f_A_personAgainst_32 : am_cd k_A_personAgainst 32 = some ((some .int), .getfield 82, (10, 11, 291, 0, 0, .null)) := rfl
theorem s_A_personAgainst_32 {ls : am_L} {st : List Value} {σ : am_H} {Q : Option Value → am_H → Prop} {a : Nat} : ax k_A_personAgainst 32 ls (.ref a :: st) σ Q = ax_f (am_fld σ a 10 11) (fun v => ax k_A_personAgainst 35 ls (v :: st) σ Q) := ru_getf f_A_personAgainst_32 rfl
theorem f_A_personAgainst_35 : am_cd k_A_personAgainst 35 = some ((some .int), .iconst 1, (0, 0, 0, 0, 0, .null)) := rfl
theorem s_A_personAgainst_35 {ls : am_L} {st : List Value} {σ : am_H} {Q : Option Value → am_H → Prop} : ax k_A_personAgainst 35 ls st σ Q = ax k_A_personAgainst 36 ls (.int 1 :: st) σ Q := ru_iconst f_A_personAgainst_35 (by decide +kernel) rfl
theorem f_A_personAgainst_36 : am_cd k_A_personAgainst 36 = some ((some .int), .invokevirtual 150, (25, 3, 512, 0, 3, .null)) := rfl
theorem s_A_personAgainst_36 {ls : am_L} {st : List Value} {σ : am_H} {Q : Option Value → am_H → Prop} {p0 : Int32} {p1 : Int32} {p2 : Int32} {b : Nat} (hi : am_is σ b 3) (h8 : am_s8 st) : ax k_A_personAgainst 36 ls (.int p2 :: .int p1 :: .int p0 :: .ref b :: st) σ Q = ax k_Log_latest 0 [some (.ref b), some (.int p0), some (.int p1), some (.int p2), none] [] σ (ax_k k_A_personAgainst 39 ls st Q) := ru_vir (M' := rk_Log_latest) f_A_personAgainst_36 rfl rfl rfl rfl hi h8 rfl rfl rfl rfl rfl
theorem f_A_personAgainst_39 : am_cd k_A_personAgainst 39 = some ((some .int), .ifCond .ne 5, (44, 0, 0, 0, 0, .null)) := rfl
theorem s_A_personAgainst_39 {ls : am_L} {st : List Value} {σ : am_H} {Q : Option Value → am_H → Prop} {x : Int32} : ax k_A_personAgainst 39 ls (.int x :: st) σ Q = (if x = 0 then ax k_A_personAgainst 42 ls st σ Q else ax k_A_personAgainst 44 ls st σ Q) := (ru_if f_A_personAgainst_39 rfl).trans (ru_i_ne _ _ _ _)
theorem f_A_personAgainst_42 : am_cd k_A_personAgainst 42 = some ((some .int), .iload_n 3, (0, 0, 0, 0, 0, .null)) := rfl
theorem s_A_personAgainst_42 {a0 a1 a2 : Option Value} {st : List Value} {σ : am_H} {Q : Option Value → am_H → Prop} {x : Int32} : ax k_A_personAgainst 42 [a0, a1, a2, some (.int x)] st σ Q = ax k_A_personAgainst 43 [a0, a1, a2, some (.int x)] (.int x :: st) σ Q := ru_loc (q := (_, _)) f_A_personAgainst_42 rfl rfl rfl
theorem f_A_personAgainst_43 : am_cd k_A_personAgainst 43 = some ((some .int), .ireturn, (0, 0, 0, 0, 0, .null)) := rfl
theorem s_A_personAgainst_43 {ls : am_L} {σ : am_H} {Q : Option Value → am_H → Prop} {v : Int32} : ax k_A_personAgainst 43 ls [.int v] σ Q = Q (some (.int v)) σ := ru_iretI f_A_personAgainst_43
theorem f_A_personAgainst_44 : am_cd k_A_personAgainst 44 = some ((some .int), .iinc 3 1, (0, 0, 0, 0, 0, .null)) := rfl
theorem s_A_personAgainst_44 {a0 a1 a2 : Option Value} {st : List Value} {σ : am_H} {Q : Option Value → am_H → Prop} {x : Int32} (hc : am_c2 a2 = false) : ax k_A_personAgainst 44 [a0, a1, a2, some (.int x)] st σ Q = ax k_A_personAgainst 47 [a0, a1, a2, some (.int (x + 1))] st σ Q := ru_iinc f_A_personAgainst_44 rfl (Nat.le_of_ble_eq_true rfl) (by decide +kernel) (ru_st1 (Nat.le_of_ble_eq_true rfl) (am_clr_c2 hc rfl) rfl) rfl
theorem f_A_personAgainst_47 : am_cd k_A_personAgainst 47 = some ((some .int), .goto (-36), (11, 0, 0, 0, 0, .null)) := rfl
theorem s_A_personAgainst_47 {ls : am_L} {st : List Value} {σ : am_H} {Q : Option Value → am_H → Prop} : ax k_A_personAgainst 47 ls st σ Q = ax k_A_personAgainst 11 ls st σ Q := ru_goto f_A_personAgainst_47
theorem f_A_personAgainst_50 : am_cd k_A_personAgainst 50 = some ((some .int), .iconst (-1), (0, 0, 0, 0, 0, .null)) := rfl
theorem s_A_personAgainst_50 {ls : am_L} {st : List Value} {σ : am_H} {Q : Option Value → am_H → Prop} : ax k_A_personAgainst 50 ls st σ Q = ax k_A_personAgainst 51 ls (.int (-1) :: st) σ Q := ru_iconst f_A_personAgainst_50 (by decide +kernel) rfl
theorem f_A_personAgainst_51 : am_cd k_A_personAgainst 51 = some ((some .int), .ireturn, (0, 0, 0, 0, 0, .null)) := rfl
theorem s_A_personAgainst_51 {ls : am_L} {σ : am_H} {Q : Option Value → am_H → Prop} {v : Int32} : ax k_A_personAgainst 51 ls [.int v] σ Q = Q (some (.int v)) σ := ru_iretI f_A_personAgainst_51
theorem f_A_saleAgainst_0 : am_cd k_A_saleAgainst 0 = some ((some .int), .aload_n 0, (0, 0, 0, 0, 0, .null)) := rfl
theorem s_A_saleAgainst_0 {a1 a2 : Option Value} {st : List Value} {σ : am_H} {Q : Option Value → am_H → Prop} {x : Nat} : ax k_A_saleAgainst 0 [some (.ref x), a1, a2] st σ Q = ax k_A_saleAgainst 1 [some (.ref x), a1, a2] (.ref x :: st) σ Q := ru_loc (q := (_, _)) f_A_saleAgainst_0 rfl rfl rfl
theorem f_A_saleAgainst_1 : am_cd k_A_saleAgainst 1 = some ((some .int), .getfield 64, (10, 8, 288, 0, 3, .null)) := rfl
theorem s_A_saleAgainst_1 {ls : am_L} {st : List Value} {σ : am_H} {Q : Option Value → am_H → Prop} {a : Nat} : ax k_A_saleAgainst 1 ls (.ref a :: st) σ Q = ax_f (am_fld σ a 10 8) (fun v => ax k_A_saleAgainst 4 ls (v :: st) σ Q) := ru_getf f_A_saleAgainst_1 rfl
theorem f_A_saleAgainst_4 : am_cd k_A_saleAgainst 4 = some ((some .int), .aload_n 0, (0, 0, 0, 0, 0, .null)) := rfl
theorem s_A_saleAgainst_4 {a1 a2 : Option Value} {st : List Value} {σ : am_H} {Q : Option Value → am_H → Prop} {x : Nat} : ax k_A_saleAgainst 4 [some (.ref x), a1, a2] st σ Q = ax k_A_saleAgainst 5 [some (.ref x), a1, a2] (.ref x :: st) σ Q := ru_loc (q := (_, _)) f_A_saleAgainst_4 rfl rfl rfl
theorem f_A_saleAgainst_5 : am_cd k_A_saleAgainst 5 = some ((some .int), .getfield 19, (10, 1, 281, 0, 3, .null)) := rfl
theorem s_A_saleAgainst_5 {ls : am_L} {st : List Value} {σ : am_H} {Q : Option Value → am_H → Prop} {a : Nat} : ax k_A_saleAgainst 5 ls (.ref a :: st) σ Q = ax_f (am_fld σ a 10 1) (fun v => ax k_A_saleAgainst 8 ls (v :: st) σ Q) := ru_getf f_A_saleAgainst_5 rfl
theorem f_A_saleAgainst_8 : am_cd k_A_saleAgainst 8 = some ((some .int), .iload_n 1, (0, 0, 0, 0, 0, .null)) := rfl
theorem s_A_saleAgainst_8 {a0 a2 : Option Value} {st : List Value} {σ : am_H} {Q : Option Value → am_H → Prop} {x : Int32} : ax k_A_saleAgainst 8 [a0, some (.int x), a2] st σ Q = ax k_A_saleAgainst 9 [a0, some (.int x), a2] (.int x :: st) σ Q := ru_loc (q := (_, _)) f_A_saleAgainst_8 rfl rfl rfl
theorem f_A_saleAgainst_9 : am_cd k_A_saleAgainst 9 = some ((some .int), .invokevirtual 140, (6, 1, 489, 0, 0, .null)) := rfl
theorem s_A_saleAgainst_9 {ls : am_L} {st : List Value} {σ : am_H} {Q : Option Value → am_H → Prop} {p0 : Int32} {b : Nat} (hi : am_is σ b 0) (h8 : am_s8 st) : ax k_A_saleAgainst 9 ls (.int p0 :: .ref b :: st) σ Q = ax k_Album_setOf 0 [some (.ref b), some (.int p0), none, none, none, none, none] [] σ (ax_k k_A_saleAgainst 12 ls st Q) := ru_vir (M' := rk_Album_setOf) f_A_saleAgainst_9 rfl rfl rfl rfl hi h8 rfl rfl rfl rfl rfl
theorem f_A_saleAgainst_12 : am_cd k_A_saleAgainst 12 = some ((some .int), .iload_n 2, (0, 0, 0, 0, 0, .null)) := rfl
theorem s_A_saleAgainst_12 {a0 a1 : Option Value} {st : List Value} {σ : am_H} {Q : Option Value → am_H → Prop} {x : Int32} : ax k_A_saleAgainst 12 [a0, a1, some (.int x)] st σ Q = ax k_A_saleAgainst 13 [a0, a1, some (.int x)] (.int x :: st) σ Q := ru_loc (q := (_, _)) f_A_saleAgainst_12 rfl rfl rfl
theorem f_A_saleAgainst_13 : am_cd k_A_saleAgainst 13 = some ((some .int), .aload_n 0, (0, 0, 0, 0, 0, .null)) := rfl
theorem s_A_saleAgainst_13 {a1 a2 : Option Value} {st : List Value} {σ : am_H} {Q : Option Value → am_H → Prop} {x : Nat} : ax k_A_saleAgainst 13 [some (.ref x), a1, a2] st σ Q = ax k_A_saleAgainst 14 [some (.ref x), a1, a2] (.ref x :: st) σ Q := ru_loc (q := (_, _)) f_A_saleAgainst_13 rfl rfl rfl
theorem f_A_saleAgainst_14 : am_cd k_A_saleAgainst 14 = some ((some .int), .getfield 82, (10, 11, 291, 0, 0, .null)) := rfl
theorem s_A_saleAgainst_14 {ls : am_L} {st : List Value} {σ : am_H} {Q : Option Value → am_H → Prop} {a : Nat} : ax k_A_saleAgainst 14 ls (.ref a :: st) σ Q = ax_f (am_fld σ a 10 11) (fun v => ax k_A_saleAgainst 17 ls (v :: st) σ Q) := ru_getf f_A_saleAgainst_14 rfl
theorem f_A_saleAgainst_17 : am_cd k_A_saleAgainst 17 = some ((some .int), .invokevirtual 287, (17, 3, 756, 0, 2, .null)) := rfl
theorem s_A_saleAgainst_17 {ls : am_L} {st : List Value} {σ : am_H} {Q : Option Value → am_H → Prop} {p0 : Int64} {p1 : Int32} {p2 : Int32} {b : Nat} (hi : am_is σ b 2) (h8 : am_s8 st) : ax k_A_saleAgainst 17 ls (.int p2 :: .int p1 :: .long p0 :: .ref b :: st) σ Q = ax k_Ledger_firstShutting 0 [some (.ref b), some (.long p0), none, some (.int p1), some (.int p2), none, none] [] σ (ax_k k_A_saleAgainst 20 ls st Q) := ru_vir (M' := rk_Ledger_firstShutting) f_A_saleAgainst_17 rfl rfl rfl rfl hi h8 rfl rfl rfl rfl rfl
theorem f_A_saleAgainst_20 : am_cd k_A_saleAgainst 20 = some ((some .int), .ireturn, (0, 0, 0, 0, 0, .null)) := rfl
theorem s_A_saleAgainst_20 {ls : am_L} {σ : am_H} {Q : Option Value → am_H → Prop} {v : Int32} : ax k_A_saleAgainst 20 ls [.int v] σ Q = Q (some (.int v)) σ := ru_iretI f_A_saleAgainst_20
theorem f_A_split_0 : am_cd k_A_split 0 = some (none, .aload_n 1, (0, 0, 0, 0, 0, .null)) := rfl
theorem s_A_split_0 {a0 a2 a3 a4 a5 a6 a7 : Option Value} {st : List Value} {σ : am_H} {Q : Option Value → am_H → Prop} {x : Nat} : ax k_A_split 0 [a0, some (.ref x), a2, a3, a4, a5, a6, a7] st σ Q = ax k_A_split 1 [a0, some (.ref x), a2, a3, a4, a5, a6, a7] (.ref x :: st) σ Q := ru_loc (q := (_, _)) f_A_split_0 rfl rfl rfl
theorem s_A_split_0n {a0 a2 a3 a4 a5 a6 a7 : Option Value} {st : List Value} {σ : am_H} {Q : Option Value → am_H → Prop} : ax k_A_split 0 [a0, some .null, a2, a3, a4, a5, a6, a7] st σ Q = ax k_A_split 1 [a0, some .null, a2, a3, a4, a5, a6, a7] (.null :: st) σ Q := ru_loc (q := (_, _)) f_A_split_0 rfl rfl rfl
theorem f_A_split_1 : am_cd k_A_split 1 = some (none, .getfield 291, (5, 2, 38, 1, 0, .null)) := rfl
theorem s_A_split_1 {ls : am_L} {st : List Value} {σ : am_H} {Q : Option Value → am_H → Prop} {a : Nat} : ax k_A_split 1 ls (.ref a :: st) σ Q = ax_f (am_fld σ a 5 2) (fun v => ax k_A_split 4 ls (v :: st) σ Q) := ru_getf f_A_split_1 rfl
theorem f_A_split_4 : am_cd k_A_split 4 = some (none, .invokestatic 203, (102, 1, 728, 0, 10, .null)) := rfl
theorem s_A_split_4 {ls : am_L} {st : List Value} {σ : am_H} {Q : Option Value → am_H → Prop} {p0 : Int32} (h8 : am_s8 st) : ax k_A_split 4 ls (.int p0 :: st) σ Q = ax k_A_isUse 0 [some (.int p0)] [] σ (ax_k k_A_split 7 ls st Q) := ru_sta (M' := rk_A_isUse) f_A_split_4 rfl (by decide) rfl (by simp) rfl h8 rfl rfl rfl rfl rfl
theorem f_A_split_7 : am_cd k_A_split 7 = some (none, .ifCond .eq 15, (22, 0, 0, 0, 0, .null)) := rfl
theorem s_A_split_7 {ls : am_L} {st : List Value} {σ : am_H} {Q : Option Value → am_H → Prop} {x : Int32} : ax k_A_split 7 ls (.int x :: st) σ Q = (if x = 0 then ax k_A_split 22 ls st σ Q else ax k_A_split 10 ls st σ Q) := (ru_if f_A_split_7 rfl).trans (ru_i_eq _ _ _ _)
theorem f_A_split_10 : am_cd k_A_split 10 = some (none, .aload_n 0, (0, 0, 0, 0, 0, .null)) := rfl
theorem s_A_split_10 {a1 a2 a3 a4 a5 a6 a7 : Option Value} {st : List Value} {σ : am_H} {Q : Option Value → am_H → Prop} {x : Nat} : ax k_A_split 10 [some (.ref x), a1, a2, a3, a4, a5, a6, a7] st σ Q = ax k_A_split 11 [some (.ref x), a1, a2, a3, a4, a5, a6, a7] (.ref x :: st) σ Q := ru_loc (q := (_, _)) f_A_split_10 rfl rfl rfl
theorem f_A_split_11 : am_cd k_A_split 11 = some (none, .getfield 68, (10, 9, 289, 0, 3, .null)) := rfl
theorem s_A_split_11 {ls : am_L} {st : List Value} {σ : am_H} {Q : Option Value → am_H → Prop} {a : Nat} : ax k_A_split 11 ls (.ref a :: st) σ Q = ax_f (am_fld σ a 10 9) (fun v => ax k_A_split 14 ls (v :: st) σ Q) := ru_getf f_A_split_11 rfl
theorem f_A_split_14 : am_cd k_A_split 14 = some (none, .aload_n 1, (0, 0, 0, 0, 0, .null)) := rfl
theorem s_A_split_14 {a0 a2 a3 a4 a5 a6 a7 : Option Value} {st : List Value} {σ : am_H} {Q : Option Value → am_H → Prop} {x : Nat} : ax k_A_split 14 [a0, some (.ref x), a2, a3, a4, a5, a6, a7] st σ Q = ax k_A_split 15 [a0, some (.ref x), a2, a3, a4, a5, a6, a7] (.ref x :: st) σ Q := ru_loc (q := (_, _)) f_A_split_14 rfl rfl rfl
theorem s_A_split_14n {a0 a2 a3 a4 a5 a6 a7 : Option Value} {st : List Value} {σ : am_H} {Q : Option Value → am_H → Prop} : ax k_A_split 14 [a0, some .null, a2, a3, a4, a5, a6, a7] st σ Q = ax k_A_split 15 [a0, some .null, a2, a3, a4, a5, a6, a7] (.null :: st) σ Q := ru_loc (q := (_, _)) f_A_split_14 rfl rfl rfl
theorem f_A_split_15 : am_cd k_A_split 15 = some (none, .getfield 291, (5, 2, 38, 1, 0, .null)) := rfl
theorem s_A_split_15 {ls : am_L} {st : List Value} {σ : am_H} {Q : Option Value → am_H → Prop} {a : Nat} : ax k_A_split 15 ls (.ref a :: st) σ Q = ax_f (am_fld σ a 5 2) (fun v => ax k_A_split 18 ls (v :: st) σ Q) := ru_getf f_A_split_15 rfl
theorem f_A_split_18 : am_cd k_A_split 18 = some (none, .iaload, (0, 0, 0, 0, 0, .null)) := rfl
theorem s_A_split_18 {ls : am_L} {st : List Value} {σ : am_H} {Q : Option Value → am_H → Prop} {a : Nat} {j : Int32} : ax k_A_split 18 ls (.int j :: .ref a :: st) σ Q = ax_f (am_j σ a) (fun q => q.1 = 0 ∧ am_ix j q.2.1 ∧ ax k_A_split 19 ls (.int (q.2.2 j.toNatClampNeg) :: st) σ Q) := rv_iald f_A_split_18 rfl
theorem f_A_split_19 : am_cd k_A_split 19 = some (none, .goto 4, (23, 0, 0, 0, 0, .null)) := rfl
theorem s_A_split_19 {ls : am_L} {st : List Value} {σ : am_H} {Q : Option Value → am_H → Prop} : ax k_A_split 19 ls st σ Q = ax k_A_split 23 ls st σ Q := ru_goto f_A_split_19
theorem f_A_split_22 : am_cd k_A_split 22 = some (none, .iconst 0, (0, 0, 0, 0, 0, .null)) := rfl
theorem s_A_split_22 {ls : am_L} {st : List Value} {σ : am_H} {Q : Option Value → am_H → Prop} : ax k_A_split 22 ls st σ Q = ax k_A_split 23 ls (.int 0 :: st) σ Q := ru_iconst f_A_split_22 (by decide +kernel) rfl
theorem f_A_split_23 : am_cd k_A_split 23 = some (none, .istore_n 2, (0, 0, 0, 0, 0, .null)) := rfl
theorem s_A_split_23 {a0 a1 a2 a3 a4 a5 a6 a7 : Option Value} {st : List Value} {σ : am_H} {Q : Option Value → am_H → Prop} {x : Int32} (hc : am_c2 a1 = false) : ax k_A_split 23 [a0, a1, a2, a3, a4, a5, a6, a7] (.int x :: st) σ Q = ax k_A_split 24 [a0, a1, some (.int x), a3, a4, a5, a6, a7] st σ Q := ru_istore_n f_A_split_23 (Nat.le_of_ble_eq_true rfl) (ru_st1 (Nat.le_of_ble_eq_true rfl) (am_clr_c2 hc rfl) rfl) rfl
theorem f_A_split_24 : am_cd k_A_split 24 = some (none, .iload_n 2, (0, 0, 0, 0, 0, .null)) := rfl
theorem s_A_split_24 {a0 a1 a3 a4 a5 a6 a7 : Option Value} {st : List Value} {σ : am_H} {Q : Option Value → am_H → Prop} {x : Int32} : ax k_A_split 24 [a0, a1, some (.int x), a3, a4, a5, a6, a7] st σ Q = ax k_A_split 25 [a0, a1, some (.int x), a3, a4, a5, a6, a7] (.int x :: st) σ Q := ru_loc (q := (_, _)) f_A_split_24 rfl rfl rfl
theorem f_A_split_25 : am_cd k_A_split 25 = some (none, .aload_n 1, (0, 0, 0, 0, 0, .null)) := rfl
theorem s_A_split_25 {a0 a2 a3 a4 a5 a6 a7 : Option Value} {st : List Value} {σ : am_H} {Q : Option Value → am_H → Prop} {x : Nat} : ax k_A_split 25 [a0, some (.ref x), a2, a3, a4, a5, a6, a7] st σ Q = ax k_A_split 26 [a0, some (.ref x), a2, a3, a4, a5, a6, a7] (.ref x :: st) σ Q := ru_loc (q := (_, _)) f_A_split_25 rfl rfl rfl
theorem s_A_split_25n {a0 a2 a3 a4 a5 a6 a7 : Option Value} {st : List Value} {σ : am_H} {Q : Option Value → am_H → Prop} : ax k_A_split 25 [a0, some .null, a2, a3, a4, a5, a6, a7] st σ Q = ax k_A_split 26 [a0, some .null, a2, a3, a4, a5, a6, a7] (.null :: st) σ Q := ru_loc (q := (_, _)) f_A_split_25 rfl rfl rfl
theorem f_A_split_26 : am_cd k_A_split 26 = some (none, .getfield 294, (5, 3, 40, 1, 0, .null)) := rfl
theorem s_A_split_26 {ls : am_L} {st : List Value} {σ : am_H} {Q : Option Value → am_H → Prop} {a : Nat} : ax k_A_split 26 ls (.ref a :: st) σ Q = ax_f (am_fld σ a 5 3) (fun v => ax k_A_split 29 ls (v :: st) σ Q) := ru_getf f_A_split_26 rfl
theorem f_A_split_29 : am_cd k_A_split 29 = some (none, .imul, (0, 0, 0, 0, 0, .null)) := rfl
theorem s_A_split_29 {ls : am_L} {st : List Value} {σ : am_H} {Q : Option Value → am_H → Prop} {x y : Int32} : ax k_A_split 29 ls (.int y :: .int x :: st) σ Q = ax k_A_split 30 ls (.int (x * y) :: st) σ Q := ru_pure f_A_split_29 rfl rfl
theorem f_A_split_30 : am_cd k_A_split 30 = some (none, .aload_n 1, (0, 0, 0, 0, 0, .null)) := rfl
theorem s_A_split_30 {a0 a2 a3 a4 a5 a6 a7 : Option Value} {st : List Value} {σ : am_H} {Q : Option Value → am_H → Prop} {x : Nat} : ax k_A_split 30 [a0, some (.ref x), a2, a3, a4, a5, a6, a7] st σ Q = ax k_A_split 31 [a0, some (.ref x), a2, a3, a4, a5, a6, a7] (.ref x :: st) σ Q := ru_loc (q := (_, _)) f_A_split_30 rfl rfl rfl
theorem s_A_split_30n {a0 a2 a3 a4 a5 a6 a7 : Option Value} {st : List Value} {σ : am_H} {Q : Option Value → am_H → Prop} : ax k_A_split 30 [a0, some .null, a2, a3, a4, a5, a6, a7] st σ Q = ax k_A_split 31 [a0, some .null, a2, a3, a4, a5, a6, a7] (.null :: st) σ Q := ru_loc (q := (_, _)) f_A_split_30 rfl rfl rfl
theorem f_A_split_31 : am_cd k_A_split 31 = some (none, .getfield 297, (5, 5, 42, 1, 0, .null)) := rfl
theorem s_A_split_31 {ls : am_L} {st : List Value} {σ : am_H} {Q : Option Value → am_H → Prop} {a : Nat} : ax k_A_split 31 ls (.ref a :: st) σ Q = ax_f (am_fld σ a 5 5) (fun v => ax k_A_split 34 ls (v :: st) σ Q) := ru_getf f_A_split_31 rfl
theorem f_A_split_34 : am_cd k_A_split 34 = some (none, .iconst (-1), (0, 0, 0, 0, 0, .null)) := rfl
theorem s_A_split_34 {ls : am_L} {st : List Value} {σ : am_H} {Q : Option Value → am_H → Prop} : ax k_A_split 34 ls st σ Q = ax k_A_split 35 ls (.int (-1) :: st) σ Q := ru_iconst f_A_split_34 (by decide +kernel) rfl
theorem f_A_split_35 : am_cd k_A_split 35 = some (none, .if_icmp .ne 7, (42, 0, 0, 0, 0, .null)) := rfl
theorem s_A_split_35 {ls : am_L} {st : List Value} {σ : am_H} {Q : Option Value → am_H → Prop} {x y : Int32} : ax k_A_split 35 ls (.int y :: .int x :: st) σ Q = (if x = y then ax k_A_split 38 ls st σ Q else ax k_A_split 42 ls st σ Q) := (ru_icmp f_A_split_35 rfl).trans (ru_i_ne _ _ _ _)
theorem f_A_split_38 : am_cd k_A_split 38 = some (none, .iconst 1, (0, 0, 0, 0, 0, .null)) := rfl
theorem s_A_split_38 {ls : am_L} {st : List Value} {σ : am_H} {Q : Option Value → am_H → Prop} : ax k_A_split 38 ls st σ Q = ax k_A_split 39 ls (.int 1 :: st) σ Q := ru_iconst f_A_split_38 (by decide +kernel) rfl
theorem f_A_split_39 : am_cd k_A_split 39 = some (none, .goto 4, (43, 0, 0, 0, 0, .null)) := rfl
theorem s_A_split_39 {ls : am_L} {st : List Value} {σ : am_H} {Q : Option Value → am_H → Prop} : ax k_A_split 39 ls st σ Q = ax k_A_split 43 ls st σ Q := ru_goto f_A_split_39
theorem f_A_split_42 : am_cd k_A_split 42 = some (none, .iconst 2, (0, 0, 0, 0, 0, .null)) := rfl
theorem s_A_split_42 {ls : am_L} {st : List Value} {σ : am_H} {Q : Option Value → am_H → Prop} : ax k_A_split 42 ls st σ Q = ax k_A_split 43 ls (.int 2 :: st) σ Q := ru_iconst f_A_split_42 (by decide +kernel) rfl
theorem f_A_split_43 : am_cd k_A_split 43 = some (none, .imul, (0, 0, 0, 0, 0, .null)) := rfl
theorem s_A_split_43 {ls : am_L} {st : List Value} {σ : am_H} {Q : Option Value → am_H → Prop} {x y : Int32} : ax k_A_split 43 ls (.int y :: .int x :: st) σ Q = ax k_A_split 44 ls (.int (x * y) :: st) σ Q := ru_pure f_A_split_43 rfl rfl
theorem f_A_split_44 : am_cd k_A_split 44 = some (none, .istore_n 3, (0, 0, 0, 0, 0, .null)) := rfl
theorem s_A_split_44 {a0 a1 a2 a3 a4 a5 a6 a7 : Option Value} {st : List Value} {σ : am_H} {Q : Option Value → am_H → Prop} {x : Int32} (hc : am_c2 a2 = false) : ax k_A_split 44 [a0, a1, a2, a3, a4, a5, a6, a7] (.int x :: st) σ Q = ax k_A_split 45 [a0, a1, a2, some (.int x), a4, a5, a6, a7] st σ Q := ru_istore_n f_A_split_44 (Nat.le_of_ble_eq_true rfl) (ru_st1 (Nat.le_of_ble_eq_true rfl) (am_clr_c2 hc rfl) rfl) rfl
theorem f_A_split_45 : am_cd k_A_split 45 = some (none, .iload_n 3, (0, 0, 0, 0, 0, .null)) := rfl
theorem s_A_split_45 {a0 a1 a2 a4 a5 a6 a7 : Option Value} {st : List Value} {σ : am_H} {Q : Option Value → am_H → Prop} {x : Int32} : ax k_A_split 45 [a0, a1, a2, some (.int x), a4, a5, a6, a7] st σ Q = ax k_A_split 46 [a0, a1, a2, some (.int x), a4, a5, a6, a7] (.int x :: st) σ Q := ru_loc (q := (_, _)) f_A_split_45 rfl rfl rfl
theorem f_A_split_46 : am_cd k_A_split 46 = some (none, .i2l, (0, 0, 0, 0, 0, .null)) := rfl
theorem s_A_split_46 {ls : am_L} {st : List Value} {σ : am_H} {Q : Option Value → am_H → Prop} {x : Int32} : ax k_A_split 46 ls (.int x :: st) σ Q = ax k_A_split 47 ls (.long x.toInt64 :: st) σ Q := ru_pure f_A_split_46 rfl rfl
theorem f_A_split_47 : am_cd k_A_split 47 = some (none, .aload_n 0, (0, 0, 0, 0, 0, .null)) := rfl
theorem s_A_split_47 {a1 a2 a3 a4 a5 a6 a7 : Option Value} {st : List Value} {σ : am_H} {Q : Option Value → am_H → Prop} {x : Nat} : ax k_A_split 47 [some (.ref x), a1, a2, a3, a4, a5, a6, a7] st σ Q = ax k_A_split 48 [some (.ref x), a1, a2, a3, a4, a5, a6, a7] (.ref x :: st) σ Q := ru_loc (q := (_, _)) f_A_split_47 rfl rfl rfl
theorem f_A_split_48 : am_cd k_A_split 48 = some (none, .getfield 78, (10, 10, 290, 0, 0, .null)) := rfl
theorem s_A_split_48 {ls : am_L} {st : List Value} {σ : am_H} {Q : Option Value → am_H → Prop} {a : Nat} : ax k_A_split 48 ls (.ref a :: st) σ Q = ax_f (am_fld σ a 10 10) (fun v => ax k_A_split 51 ls (v :: st) σ Q) := ru_getf f_A_split_48 rfl
theorem f_A_split_51 : am_cd k_A_split 51 = some (none, .i2l, (0, 0, 0, 0, 0, .null)) := rfl
theorem s_A_split_51 {ls : am_L} {st : List Value} {σ : am_H} {Q : Option Value → am_H → Prop} {x : Int32} : ax k_A_split 51 ls (.int x :: st) σ Q = ax k_A_split 52 ls (.long x.toInt64 :: st) σ Q := ru_pure f_A_split_51 rfl rfl
theorem f_A_split_52 : am_cd k_A_split 52 = some (none, .lmul, (0, 0, 0, 0, 0, .null)) := rfl
theorem s_A_split_52 {ls : am_L} {st : List Value} {σ : am_H} {Q : Option Value → am_H → Prop} {x y : Int64} : ax k_A_split 52 ls (.long y :: .long x :: st) σ Q = ax k_A_split 53 ls (.long (x * y) :: st) σ Q := ru_pure f_A_split_52 rfl rfl
theorem f_A_split_53 : am_cd k_A_split 53 = some (none, .ldc2_w 300, (0, 0, 852, 0, 0, .long (100))) := rfl
theorem s_A_split_53 {ls : am_L} {st : List Value} {σ : am_H} {Q : Option Value → am_H → Prop} : ax k_A_split 53 ls st σ Q = ax k_A_split 56 ls (.long (100) :: st) σ Q := ru_rd f_A_split_53 rfl rfl rfl rfl rfl
theorem f_A_split_56 : am_cd k_A_split 56 = some (none, .ldiv, (0, 0, 0, 0, 0, .null)) := rfl
theorem s_A_split_56 {ls : am_L} {st : List Value} {σ : am_H} {Q : Option Value → am_H → Prop} {x y : Int64} : ax k_A_split 56 ls (.long y :: .long x :: st) σ Q = (¬ y = 0 ∧ ax k_A_split 57 ls (.long (x / y) :: st) σ Q) := ru_ldiv f_A_split_56 rfl
theorem f_A_split_57 : am_cd k_A_split 57 = some (none, .l2i, (0, 0, 0, 0, 0, .null)) := rfl
theorem s_A_split_57 {ls : am_L} {st : List Value} {σ : am_H} {Q : Option Value → am_H → Prop} {x : Int64} : ax k_A_split 57 ls (.long x :: st) σ Q = ax k_A_split 58 ls (.int x.toInt32 :: st) σ Q := ru_pure f_A_split_57 rfl rfl
theorem f_A_split_58 : am_cd k_A_split 58 = some (none, .istore 4, (0, 0, 0, 0, 0, .null)) := rfl
theorem s_A_split_58 {a0 a1 a2 a3 a4 a5 a6 a7 : Option Value} {st : List Value} {σ : am_H} {Q : Option Value → am_H → Prop} {x : Int32} (hc : am_c2 a3 = false) : ax k_A_split 58 [a0, a1, a2, a3, a4, a5, a6, a7] (.int x :: st) σ Q = ax k_A_split 60 [a0, a1, a2, a3, some (.int x), a5, a6, a7] st σ Q := ru_istore f_A_split_58 (Nat.le_of_ble_eq_true rfl) (ru_st1 (Nat.le_of_ble_eq_true rfl) (am_clr_c2 hc rfl) rfl) rfl
theorem f_A_split_60 : am_cd k_A_split 60 = some (none, .aload_n 0, (0, 0, 0, 0, 0, .null)) := rfl
theorem s_A_split_60 {a1 a2 a3 a4 a5 a6 a7 : Option Value} {st : List Value} {σ : am_H} {Q : Option Value → am_H → Prop} {x : Nat} : ax k_A_split 60 [some (.ref x), a1, a2, a3, a4, a5, a6, a7] st σ Q = ax k_A_split 61 [some (.ref x), a1, a2, a3, a4, a5, a6, a7] (.ref x :: st) σ Q := ru_loc (q := (_, _)) f_A_split_60 rfl rfl rfl
theorem f_A_split_61 : am_cd k_A_split 61 = some (none, .getfield 19, (10, 1, 281, 0, 3, .null)) := rfl
theorem s_A_split_61 {ls : am_L} {st : List Value} {σ : am_H} {Q : Option Value → am_H → Prop} {a : Nat} : ax k_A_split 61 ls (.ref a :: st) σ Q = ax_f (am_fld σ a 10 1) (fun v => ax k_A_split 64 ls (v :: st) σ Q) := ru_getf f_A_split_61 rfl
theorem f_A_split_64 : am_cd k_A_split 64 = some (none, .aload_n 1, (0, 0, 0, 0, 0, .null)) := rfl
theorem s_A_split_64 {a0 a2 a3 a4 a5 a6 a7 : Option Value} {st : List Value} {σ : am_H} {Q : Option Value → am_H → Prop} {x : Nat} : ax k_A_split 64 [a0, some (.ref x), a2, a3, a4, a5, a6, a7] st σ Q = ax k_A_split 65 [a0, some (.ref x), a2, a3, a4, a5, a6, a7] (.ref x :: st) σ Q := ru_loc (q := (_, _)) f_A_split_64 rfl rfl rfl
theorem s_A_split_64n {a0 a2 a3 a4 a5 a6 a7 : Option Value} {st : List Value} {σ : am_H} {Q : Option Value → am_H → Prop} : ax k_A_split 64 [a0, some .null, a2, a3, a4, a5, a6, a7] st σ Q = ax k_A_split 65 [a0, some .null, a2, a3, a4, a5, a6, a7] (.null :: st) σ Q := ru_loc (q := (_, _)) f_A_split_64 rfl rfl rfl
theorem f_A_split_65 : am_cd k_A_split 65 = some (none, .getfield 302, (5, 0, 35, 1, 0, .null)) := rfl
theorem s_A_split_65 {ls : am_L} {st : List Value} {σ : am_H} {Q : Option Value → am_H → Prop} {a : Nat} : ax k_A_split 65 ls (.ref a :: st) σ Q = ax_f (am_fld σ a 5 0) (fun v => ax k_A_split 68 ls (v :: st) σ Q) := ru_getf f_A_split_65 rfl
theorem f_A_split_68 : am_cd k_A_split 68 = some (none, .invokevirtual 305, (3, 1, 853, 0, 0, .null)) := rfl
theorem s_A_split_68 {ls : am_L} {st : List Value} {σ : am_H} {Q : Option Value → am_H → Prop} {p0 : Int32} {b : Nat} (hi : am_is σ b 0) (h8 : am_s8 st) : ax k_A_split 68 ls (.int p0 :: .ref b :: st) σ Q = ax k_Album_shutterOf 0 [some (.ref b), some (.int p0)] [] σ (ax_k k_A_split 71 ls st Q) := ru_vir (M' := rk_Album_shutterOf) f_A_split_68 rfl rfl rfl rfl hi h8 rfl rfl rfl rfl rfl
theorem f_A_split_71 : am_cd k_A_split 71 = some (none, .istore 5, (0, 0, 0, 0, 0, .null)) := rfl
theorem s_A_split_71 {a0 a1 a2 a3 a4 a5 a6 a7 : Option Value} {st : List Value} {σ : am_H} {Q : Option Value → am_H → Prop} {x : Int32} (hc : am_c2 a4 = false) : ax k_A_split 71 [a0, a1, a2, a3, a4, a5, a6, a7] (.int x :: st) σ Q = ax k_A_split 73 [a0, a1, a2, a3, a4, some (.int x), a6, a7] st σ Q := ru_istore f_A_split_71 (Nat.le_of_ble_eq_true rfl) (ru_st1 (Nat.le_of_ble_eq_true rfl) (am_clr_c2 hc rfl) rfl) rfl
theorem f_A_split_73 : am_cd k_A_split 73 = some (none, .aload_n 0, (0, 0, 0, 0, 0, .null)) := rfl
theorem s_A_split_73 {a1 a2 a3 a4 a5 a6 a7 : Option Value} {st : List Value} {σ : am_H} {Q : Option Value → am_H → Prop} {x : Nat} : ax k_A_split 73 [some (.ref x), a1, a2, a3, a4, a5, a6, a7] st σ Q = ax k_A_split 74 [some (.ref x), a1, a2, a3, a4, a5, a6, a7] (.ref x :: st) σ Q := ru_loc (q := (_, _)) f_A_split_73 rfl rfl rfl
theorem f_A_split_74 : am_cd k_A_split 74 = some (none, .getfield 19, (10, 1, 281, 0, 3, .null)) := rfl
theorem s_A_split_74 {ls : am_L} {st : List Value} {σ : am_H} {Q : Option Value → am_H → Prop} {a : Nat} : ax k_A_split 74 ls (.ref a :: st) σ Q = ax_f (am_fld σ a 10 1) (fun v => ax k_A_split 77 ls (v :: st) σ Q) := ru_getf f_A_split_74 rfl
theorem f_A_split_77 : am_cd k_A_split 77 = some (none, .aload_n 0, (0, 0, 0, 0, 0, .null)) := rfl
theorem s_A_split_77 {a1 a2 a3 a4 a5 a6 a7 : Option Value} {st : List Value} {σ : am_H} {Q : Option Value → am_H → Prop} {x : Nat} : ax k_A_split 77 [some (.ref x), a1, a2, a3, a4, a5, a6, a7] st σ Q = ax k_A_split 78 [some (.ref x), a1, a2, a3, a4, a5, a6, a7] (.ref x :: st) σ Q := ru_loc (q := (_, _)) f_A_split_77 rfl rfl rfl
theorem f_A_split_78 : am_cd k_A_split 78 = some (none, .getfield 19, (10, 1, 281, 0, 3, .null)) := rfl
theorem s_A_split_78 {ls : am_L} {st : List Value} {σ : am_H} {Q : Option Value → am_H → Prop} {a : Nat} : ax k_A_split 78 ls (.ref a :: st) σ Q = ax_f (am_fld σ a 10 1) (fun v => ax k_A_split 81 ls (v :: st) σ Q) := ru_getf f_A_split_78 rfl
theorem f_A_split_81 : am_cd k_A_split 81 = some (none, .aload_n 0, (0, 0, 0, 0, 0, .null)) := rfl
theorem s_A_split_81 {a1 a2 a3 a4 a5 a6 a7 : Option Value} {st : List Value} {σ : am_H} {Q : Option Value → am_H → Prop} {x : Nat} : ax k_A_split 81 [some (.ref x), a1, a2, a3, a4, a5, a6, a7] st σ Q = ax k_A_split 82 [some (.ref x), a1, a2, a3, a4, a5, a6, a7] (.ref x :: st) σ Q := ru_loc (q := (_, _)) f_A_split_81 rfl rfl rfl
theorem f_A_split_82 : am_cd k_A_split 82 = some (none, .getfield 19, (10, 1, 281, 0, 3, .null)) := rfl
theorem s_A_split_82 {ls : am_L} {st : List Value} {σ : am_H} {Q : Option Value → am_H → Prop} {a : Nat} : ax k_A_split 82 ls (.ref a :: st) σ Q = ax_f (am_fld σ a 10 1) (fun v => ax k_A_split 85 ls (v :: st) σ Q) := ru_getf f_A_split_82 rfl
theorem f_A_split_85 : am_cd k_A_split 85 = some (none, .aload_n 1, (0, 0, 0, 0, 0, .null)) := rfl
theorem s_A_split_85 {a0 a2 a3 a4 a5 a6 a7 : Option Value} {st : List Value} {σ : am_H} {Q : Option Value → am_H → Prop} {x : Nat} : ax k_A_split 85 [a0, some (.ref x), a2, a3, a4, a5, a6, a7] st σ Q = ax k_A_split 86 [a0, some (.ref x), a2, a3, a4, a5, a6, a7] (.ref x :: st) σ Q := ru_loc (q := (_, _)) f_A_split_85 rfl rfl rfl
theorem s_A_split_85n {a0 a2 a3 a4 a5 a6 a7 : Option Value} {st : List Value} {σ : am_H} {Q : Option Value → am_H → Prop} : ax k_A_split 85 [a0, some .null, a2, a3, a4, a5, a6, a7] st σ Q = ax k_A_split 86 [a0, some .null, a2, a3, a4, a5, a6, a7] (.null :: st) σ Q := ru_loc (q := (_, _)) f_A_split_85 rfl rfl rfl
theorem f_A_split_86 : am_cd k_A_split 86 = some (none, .getfield 302, (5, 0, 35, 1, 0, .null)) := rfl
theorem s_A_split_86 {ls : am_L} {st : List Value} {σ : am_H} {Q : Option Value → am_H → Prop} {a : Nat} : ax k_A_split 86 ls (.ref a :: st) σ Q = ax_f (am_fld σ a 5 0) (fun v => ax k_A_split 89 ls (v :: st) σ Q) := ru_getf f_A_split_86 rfl
theorem f_A_split_89 : am_cd k_A_split 89 = some (none, .invokevirtual 140, (6, 1, 489, 0, 0, .null)) := rfl
theorem s_A_split_89 {ls : am_L} {st : List Value} {σ : am_H} {Q : Option Value → am_H → Prop} {p0 : Int32} {b : Nat} (hi : am_is σ b 0) (h8 : am_s8 st) : ax k_A_split 89 ls (.int p0 :: .ref b :: st) σ Q = ax k_Album_setOf 0 [some (.ref b), some (.int p0), none, none, none, none, none] [] σ (ax_k k_A_split 92 ls st Q) := ru_vir (M' := rk_Album_setOf) f_A_split_89 rfl rfl rfl rfl hi h8 rfl rfl rfl rfl rfl
theorem f_A_split_92 : am_cd k_A_split 92 = some (none, .invokevirtual 144, (7, 1, 495, 0, 0, .null)) := rfl
theorem s_A_split_92 {ls : am_L} {st : List Value} {σ : am_H} {Q : Option Value → am_H → Prop} {p0 : Int64} {b : Nat} (hi : am_is σ b 0) (h8 : am_s8 st) : ax k_A_split 92 ls (.long p0 :: .ref b :: st) σ Q = ax k_Album_firstOf 0 [some (.ref b), some (.long p0), none, none, none] [] σ (ax_k k_A_split 95 ls st Q) := ru_vir (M' := rk_Album_firstOf) f_A_split_92 rfl rfl rfl rfl hi h8 rfl rfl rfl rfl rfl
theorem f_A_split_95 : am_cd k_A_split 95 = some (none, .invokevirtual 305, (3, 1, 853, 0, 0, .null)) := rfl
theorem s_A_split_95 {ls : am_L} {st : List Value} {σ : am_H} {Q : Option Value → am_H → Prop} {p0 : Int32} {b : Nat} (hi : am_is σ b 0) (h8 : am_s8 st) : ax k_A_split 95 ls (.int p0 :: .ref b :: st) σ Q = ax k_Album_shutterOf 0 [some (.ref b), some (.int p0)] [] σ (ax_k k_A_split 98 ls st Q) := ru_vir (M' := rk_Album_shutterOf) f_A_split_95 rfl rfl rfl rfl hi h8 rfl rfl rfl rfl rfl
theorem f_A_split_98 : am_cd k_A_split 98 = some (none, .istore 6, (0, 0, 0, 0, 0, .null)) := rfl
theorem s_A_split_98 {a0 a1 a2 a3 a4 a5 a6 a7 : Option Value} {st : List Value} {σ : am_H} {Q : Option Value → am_H → Prop} {x : Int32} (hc : am_c2 a5 = false) : ax k_A_split 98 [a0, a1, a2, a3, a4, a5, a6, a7] (.int x :: st) σ Q = ax k_A_split 100 [a0, a1, a2, a3, a4, a5, some (.int x), a7] st σ Q := ru_istore f_A_split_98 (Nat.le_of_ble_eq_true rfl) (ru_st1 (Nat.le_of_ble_eq_true rfl) (am_clr_c2 hc rfl) rfl) rfl
theorem f_A_split_100 : am_cd k_A_split 100 = some (none, .iload 5, (0, 0, 0, 0, 0, .null)) := rfl
theorem s_A_split_100 {a0 a1 a2 a3 a4 a6 a7 : Option Value} {st : List Value} {σ : am_H} {Q : Option Value → am_H → Prop} {x : Int32} : ax k_A_split 100 [a0, a1, a2, a3, a4, some (.int x), a6, a7] st σ Q = ax k_A_split 102 [a0, a1, a2, a3, a4, some (.int x), a6, a7] (.int x :: st) σ Q := ru_loc (q := (_, _)) f_A_split_100 rfl rfl rfl
theorem f_A_split_102 : am_cd k_A_split 102 = some (none, .iload 6, (0, 0, 0, 0, 0, .null)) := rfl
theorem s_A_split_102 {a0 a1 a2 a3 a4 a5 a7 : Option Value} {st : List Value} {σ : am_H} {Q : Option Value → am_H → Prop} {x : Int32} : ax k_A_split 102 [a0, a1, a2, a3, a4, a5, some (.int x), a7] st σ Q = ax k_A_split 104 [a0, a1, a2, a3, a4, a5, some (.int x), a7] (.int x :: st) σ Q := ru_loc (q := (_, _)) f_A_split_102 rfl rfl rfl
theorem f_A_split_104 : am_cd k_A_split 104 = some (none, .if_icmp .ne 7, (111, 0, 0, 0, 0, .null)) := rfl
theorem s_A_split_104 {ls : am_L} {st : List Value} {σ : am_H} {Q : Option Value → am_H → Prop} {x y : Int32} : ax k_A_split 104 ls (.int y :: .int x :: st) σ Q = (if x = y then ax k_A_split 107 ls st σ Q else ax k_A_split 111 ls st σ Q) := (ru_icmp f_A_split_104 rfl).trans (ru_i_ne _ _ _ _)
theorem f_A_split_107 : am_cd k_A_split 107 = some (none, .iconst 0, (0, 0, 0, 0, 0, .null)) := rfl
theorem s_A_split_107 {ls : am_L} {st : List Value} {σ : am_H} {Q : Option Value → am_H → Prop} : ax k_A_split 107 ls st σ Q = ax k_A_split 108 ls (.int 0 :: st) σ Q := ru_iconst f_A_split_107 (by decide +kernel) rfl
theorem f_A_split_108 : am_cd k_A_split 108 = some (none, .goto 8, (116, 0, 0, 0, 0, .null)) := rfl
theorem s_A_split_108 {ls : am_L} {st : List Value} {σ : am_H} {Q : Option Value → am_H → Prop} : ax k_A_split 108 ls st σ Q = ax k_A_split 116 ls st σ Q := ru_goto f_A_split_108
theorem f_A_split_111 : am_cd k_A_split 111 = some (none, .iload 4, (0, 0, 0, 0, 0, .null)) := rfl
theorem s_A_split_111 {a0 a1 a2 a3 a5 a6 a7 : Option Value} {st : List Value} {σ : am_H} {Q : Option Value → am_H → Prop} {x : Int32} : ax k_A_split 111 [a0, a1, a2, a3, some (.int x), a5, a6, a7] st σ Q = ax k_A_split 113 [a0, a1, a2, a3, some (.int x), a5, a6, a7] (.int x :: st) σ Q := ru_loc (q := (_, _)) f_A_split_111 rfl rfl rfl
theorem f_A_split_113 : am_cd k_A_split 113 = some (none, .bipush 10, (0, 0, 0, 0, 0, .null)) := rfl
theorem s_A_split_113 {ls : am_L} {st : List Value} {σ : am_H} {Q : Option Value → am_H → Prop} : ax k_A_split 113 ls st σ Q = ax k_A_split 115 ls (.int 10 :: st) σ Q := ru_bipush f_A_split_113 (by decide +kernel) rfl
theorem f_A_split_115 : am_cd k_A_split 115 = some (none, .idiv, (0, 0, 0, 0, 0, .null)) := rfl
theorem s_A_split_115 {ls : am_L} {st : List Value} {σ : am_H} {Q : Option Value → am_H → Prop} {x y : Int32} : ax k_A_split 115 ls (.int y :: .int x :: st) σ Q = (¬ y = 0 ∧ ax k_A_split 116 ls (.int (x / y) :: st) σ Q) := ru_div f_A_split_115 rfl
theorem f_A_split_116 : am_cd k_A_split 116 = some (none, .istore 7, (0, 0, 0, 0, 0, .null)) := rfl
theorem s_A_split_116 {a0 a1 a2 a3 a4 a5 a6 a7 : Option Value} {st : List Value} {σ : am_H} {Q : Option Value → am_H → Prop} {x : Int32} (hc : am_c2 a6 = false) : ax k_A_split 116 [a0, a1, a2, a3, a4, a5, a6, a7] (.int x :: st) σ Q = ax k_A_split 118 [a0, a1, a2, a3, a4, a5, a6, some (.int x)] st σ Q := ru_istore f_A_split_116 (Nat.le_of_ble_eq_true rfl) (ru_st1 (Nat.le_of_ble_eq_true rfl) (am_clr_c2 hc rfl) rfl) rfl
theorem f_A_split_118 : am_cd k_A_split 118 = some (none, .aload_n 1, (0, 0, 0, 0, 0, .null)) := rfl
theorem s_A_split_118 {a0 a2 a3 a4 a5 a6 a7 : Option Value} {st : List Value} {σ : am_H} {Q : Option Value → am_H → Prop} {x : Nat} : ax k_A_split 118 [a0, some (.ref x), a2, a3, a4, a5, a6, a7] st σ Q = ax k_A_split 119 [a0, some (.ref x), a2, a3, a4, a5, a6, a7] (.ref x :: st) σ Q := ru_loc (q := (_, _)) f_A_split_118 rfl rfl rfl
theorem s_A_split_118n {a0 a2 a3 a4 a5 a6 a7 : Option Value} {st : List Value} {σ : am_H} {Q : Option Value → am_H → Prop} : ax k_A_split 118 [a0, some .null, a2, a3, a4, a5, a6, a7] st σ Q = ax k_A_split 119 [a0, some .null, a2, a3, a4, a5, a6, a7] (.null :: st) σ Q := ru_loc (q := (_, _)) f_A_split_118 rfl rfl rfl
theorem f_A_split_119 : am_cd k_A_split 119 = some (none, .iload_n 3, (0, 0, 0, 0, 0, .null)) := rfl
theorem s_A_split_119 {a0 a1 a2 a4 a5 a6 a7 : Option Value} {st : List Value} {σ : am_H} {Q : Option Value → am_H → Prop} {x : Int32} : ax k_A_split 119 [a0, a1, a2, some (.int x), a4, a5, a6, a7] st σ Q = ax k_A_split 120 [a0, a1, a2, some (.int x), a4, a5, a6, a7] (.int x :: st) σ Q := ru_loc (q := (_, _)) f_A_split_119 rfl rfl rfl
theorem f_A_split_120 : am_cd k_A_split 120 = some (none, .putfield 308, (5, 6, 44, 1, 0, .null)) := rfl
theorem s_A_split_120 {ls : am_L} {st : List Value} {σ : am_H} {Q : Option Value → am_H → Prop} {a : Nat} {v : Value} : ax k_A_split 120 ls (v :: .ref a :: st) σ Q = ax_f (am_fld σ a 5 6) (fun _ => a < am_top ∧ am_okv 0 v = true ∧ ax k_A_split 123 ls st (am_put σ a 6 v) Q) := ru_putf f_A_split_120 rfl
theorem f_A_split_123 : am_cd k_A_split 123 = some (none, .aload_n 1, (0, 0, 0, 0, 0, .null)) := rfl
theorem s_A_split_123 {a0 a2 a3 a4 a5 a6 a7 : Option Value} {st : List Value} {σ : am_H} {Q : Option Value → am_H → Prop} {x : Nat} : ax k_A_split 123 [a0, some (.ref x), a2, a3, a4, a5, a6, a7] st σ Q = ax k_A_split 124 [a0, some (.ref x), a2, a3, a4, a5, a6, a7] (.ref x :: st) σ Q := ru_loc (q := (_, _)) f_A_split_123 rfl rfl rfl
theorem s_A_split_123n {a0 a2 a3 a4 a5 a6 a7 : Option Value} {st : List Value} {σ : am_H} {Q : Option Value → am_H → Prop} : ax k_A_split 123 [a0, some .null, a2, a3, a4, a5, a6, a7] st σ Q = ax k_A_split 124 [a0, some .null, a2, a3, a4, a5, a6, a7] (.null :: st) σ Q := ru_loc (q := (_, _)) f_A_split_123 rfl rfl rfl
theorem f_A_split_124 : am_cd k_A_split 124 = some (none, .iload 5, (0, 0, 0, 0, 0, .null)) := rfl
theorem s_A_split_124 {a0 a1 a2 a3 a4 a6 a7 : Option Value} {st : List Value} {σ : am_H} {Q : Option Value → am_H → Prop} {x : Int32} : ax k_A_split 124 [a0, a1, a2, a3, a4, some (.int x), a6, a7] st σ Q = ax k_A_split 126 [a0, a1, a2, a3, a4, some (.int x), a6, a7] (.int x :: st) σ Q := ru_loc (q := (_, _)) f_A_split_124 rfl rfl rfl
theorem f_A_split_126 : am_cd k_A_split 126 = some (none, .putfield 311, (5, 7, 46, 1, 0, .null)) := rfl
theorem s_A_split_126 {ls : am_L} {st : List Value} {σ : am_H} {Q : Option Value → am_H → Prop} {a : Nat} {v : Value} : ax k_A_split 126 ls (v :: .ref a :: st) σ Q = ax_f (am_fld σ a 5 7) (fun _ => a < am_top ∧ am_okv 0 v = true ∧ ax k_A_split 129 ls st (am_put σ a 7 v) Q) := ru_putf f_A_split_126 rfl
theorem f_A_split_129 : am_cd k_A_split 129 = some (none, .aload_n 1, (0, 0, 0, 0, 0, .null)) := rfl
theorem s_A_split_129 {a0 a2 a3 a4 a5 a6 a7 : Option Value} {st : List Value} {σ : am_H} {Q : Option Value → am_H → Prop} {x : Nat} : ax k_A_split 129 [a0, some (.ref x), a2, a3, a4, a5, a6, a7] st σ Q = ax k_A_split 130 [a0, some (.ref x), a2, a3, a4, a5, a6, a7] (.ref x :: st) σ Q := ru_loc (q := (_, _)) f_A_split_129 rfl rfl rfl
theorem s_A_split_129n {a0 a2 a3 a4 a5 a6 a7 : Option Value} {st : List Value} {σ : am_H} {Q : Option Value → am_H → Prop} : ax k_A_split 129 [a0, some .null, a2, a3, a4, a5, a6, a7] st σ Q = ax k_A_split 130 [a0, some .null, a2, a3, a4, a5, a6, a7] (.null :: st) σ Q := ru_loc (q := (_, _)) f_A_split_129 rfl rfl rfl
theorem f_A_split_130 : am_cd k_A_split 130 = some (none, .iload 4, (0, 0, 0, 0, 0, .null)) := rfl
theorem s_A_split_130 {a0 a1 a2 a3 a5 a6 a7 : Option Value} {st : List Value} {σ : am_H} {Q : Option Value → am_H → Prop} {x : Int32} : ax k_A_split 130 [a0, a1, a2, a3, some (.int x), a5, a6, a7] st σ Q = ax k_A_split 132 [a0, a1, a2, a3, some (.int x), a5, a6, a7] (.int x :: st) σ Q := ru_loc (q := (_, _)) f_A_split_130 rfl rfl rfl
theorem f_A_split_132 : am_cd k_A_split 132 = some (none, .iload 7, (0, 0, 0, 0, 0, .null)) := rfl
theorem s_A_split_132 {a0 a1 a2 a3 a4 a5 a6 : Option Value} {st : List Value} {σ : am_H} {Q : Option Value → am_H → Prop} {x : Int32} : ax k_A_split 132 [a0, a1, a2, a3, a4, a5, a6, some (.int x)] st σ Q = ax k_A_split 134 [a0, a1, a2, a3, a4, a5, a6, some (.int x)] (.int x :: st) σ Q := ru_loc (q := (_, _)) f_A_split_132 rfl rfl rfl
theorem f_A_split_134 : am_cd k_A_split 134 = some (none, .isub, (0, 0, 0, 0, 0, .null)) := rfl
theorem s_A_split_134 {ls : am_L} {st : List Value} {σ : am_H} {Q : Option Value → am_H → Prop} {x y : Int32} : ax k_A_split 134 ls (.int y :: .int x :: st) σ Q = ax k_A_split 135 ls (.int (x - y) :: st) σ Q := ru_pure f_A_split_134 rfl rfl
theorem f_A_split_135 : am_cd k_A_split 135 = some (none, .putfield 314, (5, 8, 48, 1, 0, .null)) := rfl
theorem s_A_split_135 {ls : am_L} {st : List Value} {σ : am_H} {Q : Option Value → am_H → Prop} {a : Nat} {v : Value} : ax k_A_split 135 ls (v :: .ref a :: st) σ Q = ax_f (am_fld σ a 5 8) (fun _ => a < am_top ∧ am_okv 0 v = true ∧ ax k_A_split 138 ls st (am_put σ a 8 v) Q) := ru_putf f_A_split_135 rfl
theorem f_A_split_138 : am_cd k_A_split 138 = some (none, .aload_n 1, (0, 0, 0, 0, 0, .null)) := rfl
theorem s_A_split_138 {a0 a2 a3 a4 a5 a6 a7 : Option Value} {st : List Value} {σ : am_H} {Q : Option Value → am_H → Prop} {x : Nat} : ax k_A_split 138 [a0, some (.ref x), a2, a3, a4, a5, a6, a7] st σ Q = ax k_A_split 139 [a0, some (.ref x), a2, a3, a4, a5, a6, a7] (.ref x :: st) σ Q := ru_loc (q := (_, _)) f_A_split_138 rfl rfl rfl
theorem s_A_split_138n {a0 a2 a3 a4 a5 a6 a7 : Option Value} {st : List Value} {σ : am_H} {Q : Option Value → am_H → Prop} : ax k_A_split 138 [a0, some .null, a2, a3, a4, a5, a6, a7] st σ Q = ax k_A_split 139 [a0, some .null, a2, a3, a4, a5, a6, a7] (.null :: st) σ Q := ru_loc (q := (_, _)) f_A_split_138 rfl rfl rfl
theorem f_A_split_139 : am_cd k_A_split 139 = some (none, .iload 6, (0, 0, 0, 0, 0, .null)) := rfl
theorem s_A_split_139 {a0 a1 a2 a3 a4 a5 a7 : Option Value} {st : List Value} {σ : am_H} {Q : Option Value → am_H → Prop} {x : Int32} : ax k_A_split 139 [a0, a1, a2, a3, a4, a5, some (.int x), a7] st σ Q = ax k_A_split 141 [a0, a1, a2, a3, a4, a5, some (.int x), a7] (.int x :: st) σ Q := ru_loc (q := (_, _)) f_A_split_139 rfl rfl rfl
theorem f_A_split_141 : am_cd k_A_split 141 = some (none, .putfield 317, (5, 9, 50, 1, 0, .null)) := rfl
theorem s_A_split_141 {ls : am_L} {st : List Value} {σ : am_H} {Q : Option Value → am_H → Prop} {a : Nat} {v : Value} : ax k_A_split 141 ls (v :: .ref a :: st) σ Q = ax_f (am_fld σ a 5 9) (fun _ => a < am_top ∧ am_okv 0 v = true ∧ ax k_A_split 144 ls st (am_put σ a 9 v) Q) := ru_putf f_A_split_141 rfl
theorem f_A_split_144 : am_cd k_A_split 144 = some (none, .aload_n 1, (0, 0, 0, 0, 0, .null)) := rfl
theorem s_A_split_144 {a0 a2 a3 a4 a5 a6 a7 : Option Value} {st : List Value} {σ : am_H} {Q : Option Value → am_H → Prop} {x : Nat} : ax k_A_split 144 [a0, some (.ref x), a2, a3, a4, a5, a6, a7] st σ Q = ax k_A_split 145 [a0, some (.ref x), a2, a3, a4, a5, a6, a7] (.ref x :: st) σ Q := ru_loc (q := (_, _)) f_A_split_144 rfl rfl rfl
theorem s_A_split_144n {a0 a2 a3 a4 a5 a6 a7 : Option Value} {st : List Value} {σ : am_H} {Q : Option Value → am_H → Prop} : ax k_A_split 144 [a0, some .null, a2, a3, a4, a5, a6, a7] st σ Q = ax k_A_split 145 [a0, some .null, a2, a3, a4, a5, a6, a7] (.null :: st) σ Q := ru_loc (q := (_, _)) f_A_split_144 rfl rfl rfl
theorem f_A_split_145 : am_cd k_A_split 145 = some (none, .iload 7, (0, 0, 0, 0, 0, .null)) := rfl
theorem s_A_split_145 {a0 a1 a2 a3 a4 a5 a6 : Option Value} {st : List Value} {σ : am_H} {Q : Option Value → am_H → Prop} {x : Int32} : ax k_A_split 145 [a0, a1, a2, a3, a4, a5, a6, some (.int x)] st σ Q = ax k_A_split 147 [a0, a1, a2, a3, a4, a5, a6, some (.int x)] (.int x :: st) σ Q := ru_loc (q := (_, _)) f_A_split_145 rfl rfl rfl
theorem f_A_split_147 : am_cd k_A_split 147 = some (none, .putfield 320, (5, 10, 52, 1, 0, .null)) := rfl
theorem s_A_split_147 {ls : am_L} {st : List Value} {σ : am_H} {Q : Option Value → am_H → Prop} {a : Nat} {v : Value} : ax k_A_split 147 ls (v :: .ref a :: st) σ Q = ax_f (am_fld σ a 5 10) (fun _ => a < am_top ∧ am_okv 0 v = true ∧ ax k_A_split 150 ls st (am_put σ a 10 v) Q) := ru_putf f_A_split_147 rfl
theorem f_A_split_150 : am_cd k_A_split 150 = some (none, .return_, (0, 0, 0, 0, 0, .null)) := rfl
theorem s_A_split_150 {ls : am_L} {σ : am_H} {Q : Option Value → am_H → Prop} : ax k_A_split 150 ls ([]) σ Q = Q none σ := ru_ret f_A_split_150 rfl rfl rfl rfl rfl rfl rfl
theorem f_Long_bitCount_0 : am_cd k_Long_bitCount 0 = some ((some .int), .lload_n 0, (0, 0, 0, 0, 0, .null)) := rfl
theorem s_Long_bitCount_0 {a1 : Option Value} {st : List Value} {σ : am_H} {Q : Option Value → am_H → Prop} {x : Int64} : ax k_Long_bitCount 0 [some (.long x), a1] st σ Q = ax k_Long_bitCount 1 [some (.long x), a1] (.long x :: st) σ Q := ru_loc (q := (_, _)) f_Long_bitCount_0 rfl rfl rfl
theorem f_Long_bitCount_1 : am_cd k_Long_bitCount 1 = some ((some .int), .lload_n 0, (0, 0, 0, 0, 0, .null)) := rfl
theorem s_Long_bitCount_1 {a1 : Option Value} {st : List Value} {σ : am_H} {Q : Option Value → am_H → Prop} {x : Int64} : ax k_Long_bitCount 1 [some (.long x), a1] st σ Q = ax k_Long_bitCount 2 [some (.long x), a1] (.long x :: st) σ Q := ru_loc (q := (_, _)) f_Long_bitCount_1 rfl rfl rfl
theorem f_Long_bitCount_2 : am_cd k_Long_bitCount 2 = some ((some .int), .iconst 1, (0, 0, 0, 0, 0, .null)) := rfl
theorem s_Long_bitCount_2 {ls : am_L} {st : List Value} {σ : am_H} {Q : Option Value → am_H → Prop} : ax k_Long_bitCount 2 ls st σ Q = ax k_Long_bitCount 3 ls (.int 1 :: st) σ Q := ru_iconst f_Long_bitCount_2 (by decide +kernel) rfl
theorem f_Long_bitCount_3 : am_cd k_Long_bitCount 3 = some ((some .int), .lushr, (0, 0, 0, 0, 0, .null)) := rfl
theorem s_Long_bitCount_3 {ls : am_L} {st : List Value} {σ : am_H} {Q : Option Value → am_H → Prop} {x : Int64} {y : Int32} : ax k_Long_bitCount 3 ls (.int y :: .long x :: st) σ Q = ax k_Long_bitCount 4 ls (.long ((x.toUInt64 >>> (y.toInt64.toUInt64 &&& Int64.toUInt64 63)).toInt64) :: st) σ Q := ru_pure f_Long_bitCount_3 rfl rfl
theorem f_Long_bitCount_4 : am_cd k_Long_bitCount 4 = some ((some .int), .ldc2_w 314, (0, 0, 465, 0, 0, .long (6148914691236517205))) := rfl
theorem s_Long_bitCount_4 {ls : am_L} {st : List Value} {σ : am_H} {Q : Option Value → am_H → Prop} : ax k_Long_bitCount 4 ls st σ Q = ax k_Long_bitCount 7 ls (.long (6148914691236517205) :: st) σ Q := ru_rd f_Long_bitCount_4 rfl rfl rfl rfl rfl
theorem f_Long_bitCount_7 : am_cd k_Long_bitCount 7 = some ((some .int), .land, (0, 0, 0, 0, 0, .null)) := rfl
theorem s_Long_bitCount_7 {ls : am_L} {st : List Value} {σ : am_H} {Q : Option Value → am_H → Prop} {x y : Int64} : ax k_Long_bitCount 7 ls (.long y :: .long x :: st) σ Q = ax k_Long_bitCount 8 ls (.long (x &&& y) :: st) σ Q := ru_pure f_Long_bitCount_7 rfl rfl
theorem f_Long_bitCount_8 : am_cd k_Long_bitCount 8 = some ((some .int), .lsub, (0, 0, 0, 0, 0, .null)) := rfl
theorem s_Long_bitCount_8 {ls : am_L} {st : List Value} {σ : am_H} {Q : Option Value → am_H → Prop} {x y : Int64} : ax k_Long_bitCount 8 ls (.long y :: .long x :: st) σ Q = ax k_Long_bitCount 9 ls (.long (x - y) :: st) σ Q := ru_pure f_Long_bitCount_8 rfl rfl
theorem f_Long_bitCount_9 : am_cd k_Long_bitCount 9 = some ((some .int), .lstore_n 0, (0, 0, 0, 0, 0, .null)) := rfl
theorem s_Long_bitCount_9 {a0 a1 : Option Value} {st : List Value} {σ : am_H} {Q : Option Value → am_H → Prop} {x : Int64} : ax k_Long_bitCount 9 [a0, a1] (.long x :: st) σ Q = ax k_Long_bitCount 10 [some (.long x), none] st σ Q := ru_lstore_n f_Long_bitCount_9 (Nat.le_of_ble_eq_true rfl) (ru_st2 (Nat.le_of_ble_eq_true rfl) rfl rfl) rfl
theorem f_Long_bitCount_10 : am_cd k_Long_bitCount 10 = some ((some .int), .lload_n 0, (0, 0, 0, 0, 0, .null)) := rfl
theorem s_Long_bitCount_10 {a1 : Option Value} {st : List Value} {σ : am_H} {Q : Option Value → am_H → Prop} {x : Int64} : ax k_Long_bitCount 10 [some (.long x), a1] st σ Q = ax k_Long_bitCount 11 [some (.long x), a1] (.long x :: st) σ Q := ru_loc (q := (_, _)) f_Long_bitCount_10 rfl rfl rfl
theorem f_Long_bitCount_11 : am_cd k_Long_bitCount 11 = some ((some .int), .ldc2_w 316, (0, 0, 466, 0, 0, .long (3689348814741910323))) := rfl
theorem s_Long_bitCount_11 {ls : am_L} {st : List Value} {σ : am_H} {Q : Option Value → am_H → Prop} : ax k_Long_bitCount 11 ls st σ Q = ax k_Long_bitCount 14 ls (.long (3689348814741910323) :: st) σ Q := ru_rd f_Long_bitCount_11 rfl rfl rfl rfl rfl
theorem f_Long_bitCount_14 : am_cd k_Long_bitCount 14 = some ((some .int), .land, (0, 0, 0, 0, 0, .null)) := rfl
theorem s_Long_bitCount_14 {ls : am_L} {st : List Value} {σ : am_H} {Q : Option Value → am_H → Prop} {x y : Int64} : ax k_Long_bitCount 14 ls (.long y :: .long x :: st) σ Q = ax k_Long_bitCount 15 ls (.long (x &&& y) :: st) σ Q := ru_pure f_Long_bitCount_14 rfl rfl
theorem f_Long_bitCount_15 : am_cd k_Long_bitCount 15 = some ((some .int), .lload_n 0, (0, 0, 0, 0, 0, .null)) := rfl
theorem s_Long_bitCount_15 {a1 : Option Value} {st : List Value} {σ : am_H} {Q : Option Value → am_H → Prop} {x : Int64} : ax k_Long_bitCount 15 [some (.long x), a1] st σ Q = ax k_Long_bitCount 16 [some (.long x), a1] (.long x :: st) σ Q := ru_loc (q := (_, _)) f_Long_bitCount_15 rfl rfl rfl
theorem f_Long_bitCount_16 : am_cd k_Long_bitCount 16 = some ((some .int), .iconst 2, (0, 0, 0, 0, 0, .null)) := rfl
theorem s_Long_bitCount_16 {ls : am_L} {st : List Value} {σ : am_H} {Q : Option Value → am_H → Prop} : ax k_Long_bitCount 16 ls st σ Q = ax k_Long_bitCount 17 ls (.int 2 :: st) σ Q := ru_iconst f_Long_bitCount_16 (by decide +kernel) rfl
theorem f_Long_bitCount_17 : am_cd k_Long_bitCount 17 = some ((some .int), .lushr, (0, 0, 0, 0, 0, .null)) := rfl
theorem s_Long_bitCount_17 {ls : am_L} {st : List Value} {σ : am_H} {Q : Option Value → am_H → Prop} {x : Int64} {y : Int32} : ax k_Long_bitCount 17 ls (.int y :: .long x :: st) σ Q = ax k_Long_bitCount 18 ls (.long ((x.toUInt64 >>> (y.toInt64.toUInt64 &&& Int64.toUInt64 63)).toInt64) :: st) σ Q := ru_pure f_Long_bitCount_17 rfl rfl
theorem f_Long_bitCount_18 : am_cd k_Long_bitCount 18 = some ((some .int), .ldc2_w 316, (0, 0, 466, 0, 0, .long (3689348814741910323))) := rfl
theorem s_Long_bitCount_18 {ls : am_L} {st : List Value} {σ : am_H} {Q : Option Value → am_H → Prop} : ax k_Long_bitCount 18 ls st σ Q = ax k_Long_bitCount 21 ls (.long (3689348814741910323) :: st) σ Q := ru_rd f_Long_bitCount_18 rfl rfl rfl rfl rfl
theorem f_Long_bitCount_21 : am_cd k_Long_bitCount 21 = some ((some .int), .land, (0, 0, 0, 0, 0, .null)) := rfl
theorem s_Long_bitCount_21 {ls : am_L} {st : List Value} {σ : am_H} {Q : Option Value → am_H → Prop} {x y : Int64} : ax k_Long_bitCount 21 ls (.long y :: .long x :: st) σ Q = ax k_Long_bitCount 22 ls (.long (x &&& y) :: st) σ Q := ru_pure f_Long_bitCount_21 rfl rfl
theorem f_Long_bitCount_22 : am_cd k_Long_bitCount 22 = some ((some .int), .ladd, (0, 0, 0, 0, 0, .null)) := rfl
theorem s_Long_bitCount_22 {ls : am_L} {st : List Value} {σ : am_H} {Q : Option Value → am_H → Prop} {x y : Int64} : ax k_Long_bitCount 22 ls (.long y :: .long x :: st) σ Q = ax k_Long_bitCount 23 ls (.long (x + y) :: st) σ Q := ru_pure f_Long_bitCount_22 rfl rfl
theorem f_Long_bitCount_23 : am_cd k_Long_bitCount 23 = some ((some .int), .lstore_n 0, (0, 0, 0, 0, 0, .null)) := rfl
theorem s_Long_bitCount_23 {a0 a1 : Option Value} {st : List Value} {σ : am_H} {Q : Option Value → am_H → Prop} {x : Int64} : ax k_Long_bitCount 23 [a0, a1] (.long x :: st) σ Q = ax k_Long_bitCount 24 [some (.long x), none] st σ Q := ru_lstore_n f_Long_bitCount_23 (Nat.le_of_ble_eq_true rfl) (ru_st2 (Nat.le_of_ble_eq_true rfl) rfl rfl) rfl
theorem f_Long_bitCount_24 : am_cd k_Long_bitCount 24 = some ((some .int), .lload_n 0, (0, 0, 0, 0, 0, .null)) := rfl
theorem s_Long_bitCount_24 {a1 : Option Value} {st : List Value} {σ : am_H} {Q : Option Value → am_H → Prop} {x : Int64} : ax k_Long_bitCount 24 [some (.long x), a1] st σ Q = ax k_Long_bitCount 25 [some (.long x), a1] (.long x :: st) σ Q := ru_loc (q := (_, _)) f_Long_bitCount_24 rfl rfl rfl
theorem f_Long_bitCount_25 : am_cd k_Long_bitCount 25 = some ((some .int), .lload_n 0, (0, 0, 0, 0, 0, .null)) := rfl
theorem s_Long_bitCount_25 {a1 : Option Value} {st : List Value} {σ : am_H} {Q : Option Value → am_H → Prop} {x : Int64} : ax k_Long_bitCount 25 [some (.long x), a1] st σ Q = ax k_Long_bitCount 26 [some (.long x), a1] (.long x :: st) σ Q := ru_loc (q := (_, _)) f_Long_bitCount_25 rfl rfl rfl
theorem f_Long_bitCount_26 : am_cd k_Long_bitCount 26 = some ((some .int), .iconst 4, (0, 0, 0, 0, 0, .null)) := rfl
theorem s_Long_bitCount_26 {ls : am_L} {st : List Value} {σ : am_H} {Q : Option Value → am_H → Prop} : ax k_Long_bitCount 26 ls st σ Q = ax k_Long_bitCount 27 ls (.int 4 :: st) σ Q := ru_iconst f_Long_bitCount_26 (by decide +kernel) rfl
theorem f_Long_bitCount_27 : am_cd k_Long_bitCount 27 = some ((some .int), .lushr, (0, 0, 0, 0, 0, .null)) := rfl
theorem s_Long_bitCount_27 {ls : am_L} {st : List Value} {σ : am_H} {Q : Option Value → am_H → Prop} {x : Int64} {y : Int32} : ax k_Long_bitCount 27 ls (.int y :: .long x :: st) σ Q = ax k_Long_bitCount 28 ls (.long ((x.toUInt64 >>> (y.toInt64.toUInt64 &&& Int64.toUInt64 63)).toInt64) :: st) σ Q := ru_pure f_Long_bitCount_27 rfl rfl
theorem f_Long_bitCount_28 : am_cd k_Long_bitCount 28 = some ((some .int), .ladd, (0, 0, 0, 0, 0, .null)) := rfl
theorem s_Long_bitCount_28 {ls : am_L} {st : List Value} {σ : am_H} {Q : Option Value → am_H → Prop} {x y : Int64} : ax k_Long_bitCount 28 ls (.long y :: .long x :: st) σ Q = ax k_Long_bitCount 29 ls (.long (x + y) :: st) σ Q := ru_pure f_Long_bitCount_28 rfl rfl
theorem f_Long_bitCount_29 : am_cd k_Long_bitCount 29 = some ((some .int), .ldc2_w 318, (0, 0, 467, 0, 0, .long (1085102592571150095))) := rfl
theorem s_Long_bitCount_29 {ls : am_L} {st : List Value} {σ : am_H} {Q : Option Value → am_H → Prop} : ax k_Long_bitCount 29 ls st σ Q = ax k_Long_bitCount 32 ls (.long (1085102592571150095) :: st) σ Q := ru_rd f_Long_bitCount_29 rfl rfl rfl rfl rfl
theorem f_Long_bitCount_32 : am_cd k_Long_bitCount 32 = some ((some .int), .land, (0, 0, 0, 0, 0, .null)) := rfl
theorem s_Long_bitCount_32 {ls : am_L} {st : List Value} {σ : am_H} {Q : Option Value → am_H → Prop} {x y : Int64} : ax k_Long_bitCount 32 ls (.long y :: .long x :: st) σ Q = ax k_Long_bitCount 33 ls (.long (x &&& y) :: st) σ Q := ru_pure f_Long_bitCount_32 rfl rfl
theorem f_Long_bitCount_33 : am_cd k_Long_bitCount 33 = some ((some .int), .lstore_n 0, (0, 0, 0, 0, 0, .null)) := rfl
theorem s_Long_bitCount_33 {a0 a1 : Option Value} {st : List Value} {σ : am_H} {Q : Option Value → am_H → Prop} {x : Int64} : ax k_Long_bitCount 33 [a0, a1] (.long x :: st) σ Q = ax k_Long_bitCount 34 [some (.long x), none] st σ Q := ru_lstore_n f_Long_bitCount_33 (Nat.le_of_ble_eq_true rfl) (ru_st2 (Nat.le_of_ble_eq_true rfl) rfl rfl) rfl
theorem f_Long_bitCount_34 : am_cd k_Long_bitCount 34 = some ((some .int), .lload_n 0, (0, 0, 0, 0, 0, .null)) := rfl
theorem s_Long_bitCount_34 {a1 : Option Value} {st : List Value} {σ : am_H} {Q : Option Value → am_H → Prop} {x : Int64} : ax k_Long_bitCount 34 [some (.long x), a1] st σ Q = ax k_Long_bitCount 35 [some (.long x), a1] (.long x :: st) σ Q := ru_loc (q := (_, _)) f_Long_bitCount_34 rfl rfl rfl
theorem f_Long_bitCount_35 : am_cd k_Long_bitCount 35 = some ((some .int), .lload_n 0, (0, 0, 0, 0, 0, .null)) := rfl
theorem s_Long_bitCount_35 {a1 : Option Value} {st : List Value} {σ : am_H} {Q : Option Value → am_H → Prop} {x : Int64} : ax k_Long_bitCount 35 [some (.long x), a1] st σ Q = ax k_Long_bitCount 36 [some (.long x), a1] (.long x :: st) σ Q := ru_loc (q := (_, _)) f_Long_bitCount_35 rfl rfl rfl
theorem f_Long_bitCount_36 : am_cd k_Long_bitCount 36 = some ((some .int), .bipush 8, (0, 0, 0, 0, 0, .null)) := rfl
theorem s_Long_bitCount_36 {ls : am_L} {st : List Value} {σ : am_H} {Q : Option Value → am_H → Prop} : ax k_Long_bitCount 36 ls st σ Q = ax k_Long_bitCount 38 ls (.int 8 :: st) σ Q := ru_bipush f_Long_bitCount_36 (by decide +kernel) rfl
theorem f_Long_bitCount_38 : am_cd k_Long_bitCount 38 = some ((some .int), .lushr, (0, 0, 0, 0, 0, .null)) := rfl
theorem s_Long_bitCount_38 {ls : am_L} {st : List Value} {σ : am_H} {Q : Option Value → am_H → Prop} {x : Int64} {y : Int32} : ax k_Long_bitCount 38 ls (.int y :: .long x :: st) σ Q = ax k_Long_bitCount 39 ls (.long ((x.toUInt64 >>> (y.toInt64.toUInt64 &&& Int64.toUInt64 63)).toInt64) :: st) σ Q := ru_pure f_Long_bitCount_38 rfl rfl
theorem f_Long_bitCount_39 : am_cd k_Long_bitCount 39 = some ((some .int), .ladd, (0, 0, 0, 0, 0, .null)) := rfl
theorem s_Long_bitCount_39 {ls : am_L} {st : List Value} {σ : am_H} {Q : Option Value → am_H → Prop} {x y : Int64} : ax k_Long_bitCount 39 ls (.long y :: .long x :: st) σ Q = ax k_Long_bitCount 40 ls (.long (x + y) :: st) σ Q := ru_pure f_Long_bitCount_39 rfl rfl
theorem f_Long_bitCount_40 : am_cd k_Long_bitCount 40 = some ((some .int), .lstore_n 0, (0, 0, 0, 0, 0, .null)) := rfl
theorem s_Long_bitCount_40 {a0 a1 : Option Value} {st : List Value} {σ : am_H} {Q : Option Value → am_H → Prop} {x : Int64} : ax k_Long_bitCount 40 [a0, a1] (.long x :: st) σ Q = ax k_Long_bitCount 41 [some (.long x), none] st σ Q := ru_lstore_n f_Long_bitCount_40 (Nat.le_of_ble_eq_true rfl) (ru_st2 (Nat.le_of_ble_eq_true rfl) rfl rfl) rfl
theorem f_Long_bitCount_41 : am_cd k_Long_bitCount 41 = some ((some .int), .lload_n 0, (0, 0, 0, 0, 0, .null)) := rfl
theorem s_Long_bitCount_41 {a1 : Option Value} {st : List Value} {σ : am_H} {Q : Option Value → am_H → Prop} {x : Int64} : ax k_Long_bitCount 41 [some (.long x), a1] st σ Q = ax k_Long_bitCount 42 [some (.long x), a1] (.long x :: st) σ Q := ru_loc (q := (_, _)) f_Long_bitCount_41 rfl rfl rfl
theorem f_Long_bitCount_42 : am_cd k_Long_bitCount 42 = some ((some .int), .lload_n 0, (0, 0, 0, 0, 0, .null)) := rfl
theorem s_Long_bitCount_42 {a1 : Option Value} {st : List Value} {σ : am_H} {Q : Option Value → am_H → Prop} {x : Int64} : ax k_Long_bitCount 42 [some (.long x), a1] st σ Q = ax k_Long_bitCount 43 [some (.long x), a1] (.long x :: st) σ Q := ru_loc (q := (_, _)) f_Long_bitCount_42 rfl rfl rfl
theorem f_Long_bitCount_43 : am_cd k_Long_bitCount 43 = some ((some .int), .bipush 16, (0, 0, 0, 0, 0, .null)) := rfl
theorem s_Long_bitCount_43 {ls : am_L} {st : List Value} {σ : am_H} {Q : Option Value → am_H → Prop} : ax k_Long_bitCount 43 ls st σ Q = ax k_Long_bitCount 45 ls (.int 16 :: st) σ Q := ru_bipush f_Long_bitCount_43 (by decide +kernel) rfl
theorem f_Long_bitCount_45 : am_cd k_Long_bitCount 45 = some ((some .int), .lushr, (0, 0, 0, 0, 0, .null)) := rfl
theorem s_Long_bitCount_45 {ls : am_L} {st : List Value} {σ : am_H} {Q : Option Value → am_H → Prop} {x : Int64} {y : Int32} : ax k_Long_bitCount 45 ls (.int y :: .long x :: st) σ Q = ax k_Long_bitCount 46 ls (.long ((x.toUInt64 >>> (y.toInt64.toUInt64 &&& Int64.toUInt64 63)).toInt64) :: st) σ Q := ru_pure f_Long_bitCount_45 rfl rfl
theorem f_Long_bitCount_46 : am_cd k_Long_bitCount 46 = some ((some .int), .ladd, (0, 0, 0, 0, 0, .null)) := rfl
theorem s_Long_bitCount_46 {ls : am_L} {st : List Value} {σ : am_H} {Q : Option Value → am_H → Prop} {x y : Int64} : ax k_Long_bitCount 46 ls (.long y :: .long x :: st) σ Q = ax k_Long_bitCount 47 ls (.long (x + y) :: st) σ Q := ru_pure f_Long_bitCount_46 rfl rfl
theorem f_Long_bitCount_47 : am_cd k_Long_bitCount 47 = some ((some .int), .lstore_n 0, (0, 0, 0, 0, 0, .null)) := rfl
theorem s_Long_bitCount_47 {a0 a1 : Option Value} {st : List Value} {σ : am_H} {Q : Option Value → am_H → Prop} {x : Int64} : ax k_Long_bitCount 47 [a0, a1] (.long x :: st) σ Q = ax k_Long_bitCount 48 [some (.long x), none] st σ Q := ru_lstore_n f_Long_bitCount_47 (Nat.le_of_ble_eq_true rfl) (ru_st2 (Nat.le_of_ble_eq_true rfl) rfl rfl) rfl
theorem f_Long_bitCount_48 : am_cd k_Long_bitCount 48 = some ((some .int), .lload_n 0, (0, 0, 0, 0, 0, .null)) := rfl
theorem s_Long_bitCount_48 {a1 : Option Value} {st : List Value} {σ : am_H} {Q : Option Value → am_H → Prop} {x : Int64} : ax k_Long_bitCount 48 [some (.long x), a1] st σ Q = ax k_Long_bitCount 49 [some (.long x), a1] (.long x :: st) σ Q := ru_loc (q := (_, _)) f_Long_bitCount_48 rfl rfl rfl
theorem f_Long_bitCount_49 : am_cd k_Long_bitCount 49 = some ((some .int), .lload_n 0, (0, 0, 0, 0, 0, .null)) := rfl
theorem s_Long_bitCount_49 {a1 : Option Value} {st : List Value} {σ : am_H} {Q : Option Value → am_H → Prop} {x : Int64} : ax k_Long_bitCount 49 [some (.long x), a1] st σ Q = ax k_Long_bitCount 50 [some (.long x), a1] (.long x :: st) σ Q := ru_loc (q := (_, _)) f_Long_bitCount_49 rfl rfl rfl
theorem f_Long_bitCount_50 : am_cd k_Long_bitCount 50 = some ((some .int), .bipush 32, (0, 0, 0, 0, 0, .null)) := rfl
theorem s_Long_bitCount_50 {ls : am_L} {st : List Value} {σ : am_H} {Q : Option Value → am_H → Prop} : ax k_Long_bitCount 50 ls st σ Q = ax k_Long_bitCount 52 ls (.int 32 :: st) σ Q := ru_bipush f_Long_bitCount_50 (by decide +kernel) rfl
theorem f_Long_bitCount_52 : am_cd k_Long_bitCount 52 = some ((some .int), .lushr, (0, 0, 0, 0, 0, .null)) := rfl
theorem s_Long_bitCount_52 {ls : am_L} {st : List Value} {σ : am_H} {Q : Option Value → am_H → Prop} {x : Int64} {y : Int32} : ax k_Long_bitCount 52 ls (.int y :: .long x :: st) σ Q = ax k_Long_bitCount 53 ls (.long ((x.toUInt64 >>> (y.toInt64.toUInt64 &&& Int64.toUInt64 63)).toInt64) :: st) σ Q := ru_pure f_Long_bitCount_52 rfl rfl
theorem f_Long_bitCount_53 : am_cd k_Long_bitCount 53 = some ((some .int), .ladd, (0, 0, 0, 0, 0, .null)) := rfl
theorem s_Long_bitCount_53 {ls : am_L} {st : List Value} {σ : am_H} {Q : Option Value → am_H → Prop} {x y : Int64} : ax k_Long_bitCount 53 ls (.long y :: .long x :: st) σ Q = ax k_Long_bitCount 54 ls (.long (x + y) :: st) σ Q := ru_pure f_Long_bitCount_53 rfl rfl
theorem f_Long_bitCount_54 : am_cd k_Long_bitCount 54 = some ((some .int), .lstore_n 0, (0, 0, 0, 0, 0, .null)) := rfl
theorem s_Long_bitCount_54 {a0 a1 : Option Value} {st : List Value} {σ : am_H} {Q : Option Value → am_H → Prop} {x : Int64} : ax k_Long_bitCount 54 [a0, a1] (.long x :: st) σ Q = ax k_Long_bitCount 55 [some (.long x), none] st σ Q := ru_lstore_n f_Long_bitCount_54 (Nat.le_of_ble_eq_true rfl) (ru_st2 (Nat.le_of_ble_eq_true rfl) rfl rfl) rfl
theorem f_Long_bitCount_55 : am_cd k_Long_bitCount 55 = some ((some .int), .lload_n 0, (0, 0, 0, 0, 0, .null)) := rfl
theorem s_Long_bitCount_55 {a1 : Option Value} {st : List Value} {σ : am_H} {Q : Option Value → am_H → Prop} {x : Int64} : ax k_Long_bitCount 55 [some (.long x), a1] st σ Q = ax k_Long_bitCount 56 [some (.long x), a1] (.long x :: st) σ Q := ru_loc (q := (_, _)) f_Long_bitCount_55 rfl rfl rfl
theorem f_Long_bitCount_56 : am_cd k_Long_bitCount 56 = some ((some .int), .l2i, (0, 0, 0, 0, 0, .null)) := rfl
theorem s_Long_bitCount_56 {ls : am_L} {st : List Value} {σ : am_H} {Q : Option Value → am_H → Prop} {x : Int64} : ax k_Long_bitCount 56 ls (.long x :: st) σ Q = ax k_Long_bitCount 57 ls (.int x.toInt32 :: st) σ Q := ru_pure f_Long_bitCount_56 rfl rfl
theorem f_Long_bitCount_57 : am_cd k_Long_bitCount 57 = some ((some .int), .bipush 127, (0, 0, 0, 0, 0, .null)) := rfl
theorem s_Long_bitCount_57 {ls : am_L} {st : List Value} {σ : am_H} {Q : Option Value → am_H → Prop} : ax k_Long_bitCount 57 ls st σ Q = ax k_Long_bitCount 59 ls (.int 127 :: st) σ Q := ru_bipush f_Long_bitCount_57 (by decide +kernel) rfl
theorem f_Long_bitCount_59 : am_cd k_Long_bitCount 59 = some ((some .int), .iand, (0, 0, 0, 0, 0, .null)) := rfl
theorem s_Long_bitCount_59 {ls : am_L} {st : List Value} {σ : am_H} {Q : Option Value → am_H → Prop} {x y : Int32} : ax k_Long_bitCount 59 ls (.int y :: .int x :: st) σ Q = ax k_Long_bitCount 60 ls (.int (x &&& y) :: st) σ Q := ru_pure f_Long_bitCount_59 rfl rfl
theorem f_Long_bitCount_60 : am_cd k_Long_bitCount 60 = some ((some .int), .ireturn, (0, 0, 0, 0, 0, .null)) := rfl
theorem s_Long_bitCount_60 {ls : am_L} {σ : am_H} {Q : Option Value → am_H → Prop} {v : Int32} : ax k_Long_bitCount 60 ls [.int v] σ Q = Q (some (.int v)) σ := ru_iretI f_Long_bitCount_60
theorem f_String_length_0 : am_cd k_String_length 0 = some ((some .int), .aload_n 0, (0, 0, 0, 0, 0, .null)) := rfl
theorem s_String_length_0 {st : List Value} {σ : am_H} {Q : Option Value → am_H → Prop} {x : Nat} : ax k_String_length 0 [some (.ref x)] st σ Q = ax k_String_length 1 [some (.ref x)] (.ref x :: st) σ Q := ru_loc (q := (_, _)) f_String_length_0 rfl rfl rfl
theorem f_String_length_1 : am_cd k_String_length 1 = some ((some .int), .getfield 9, (12, 0, 1346, 0, 0, .null)) := rfl
theorem s_String_length_1 {ls : am_L} {st : List Value} {σ : am_H} {Q : Option Value → am_H → Prop} {a : Nat} : ax k_String_length 1 ls (.ref a :: st) σ Q = ax_f (am_fld σ a 12 0) (fun v => ax k_String_length 4 ls (v :: st) σ Q) := ru_getf f_String_length_1 rfl
theorem f_String_length_4 : am_cd k_String_length 4 = some ((some .int), .arraylength, (0, 0, 0, 0, 0, .null)) := rfl
theorem s_String_length_4 {ls : am_L} {st : List Value} {σ : am_H} {Q : Option Value → am_H → Prop} {a : Nat} : ax k_String_length 4 ls (.ref a :: st) σ Q = ax_f (am_nv σ a) (fun n => ax k_String_length 5 ls (.int (Int32.ofNat n) :: st) σ Q) := ru_alen f_String_length_4 rfl
theorem f_String_length_5 : am_cd k_String_length 5 = some ((some .int), .aload_n 0, (0, 0, 0, 0, 0, .null)) := rfl
theorem s_String_length_5 {st : List Value} {σ : am_H} {Q : Option Value → am_H → Prop} {x : Nat} : ax k_String_length 5 [some (.ref x)] st σ Q = ax k_String_length 6 [some (.ref x)] (.ref x :: st) σ Q := ru_loc (q := (_, _)) f_String_length_5 rfl rfl rfl
theorem f_String_length_6 : am_cd k_String_length 6 = some ((some .int), .invokevirtual 335, (176, 0, 614, 0, 12, .null)) := rfl
theorem s_String_length_6 {ls : am_L} {st : List Value} {σ : am_H} {Q : Option Value → am_H → Prop} {b : Nat} (hi : am_is σ b 12) (h8 : am_s8 st) : ax k_String_length 6 ls (.ref b :: st) σ Q = ax k_String_coder 0 [some (.ref b)] [] σ (ax_k k_String_length 9 ls st Q) := ru_vir (M' := rk_String_coder) f_String_length_6 rfl rfl rfl rfl hi h8 rfl rfl rfl rfl rfl
theorem f_String_length_9 : am_cd k_String_length 9 = some ((some .int), .ishr, (0, 0, 0, 0, 0, .null)) := rfl
theorem s_String_length_9 {ls : am_L} {st : List Value} {σ : am_H} {Q : Option Value → am_H → Prop} {x y : Int32} : ax k_String_length 9 ls (.int y :: .int x :: st) σ Q = ax k_String_length 10 ls (.int (x >>> (y &&& 31)) :: st) σ Q := ru_pure f_String_length_9 rfl rfl
theorem f_String_length_10 : am_cd k_String_length 10 = some ((some .int), .ireturn, (0, 0, 0, 0, 0, .null)) := rfl
theorem s_String_length_10 {ls : am_L} {σ : am_H} {Q : Option Value → am_H → Prop} {v : Int32} : ax k_String_length 10 ls [.int v] σ Q = Q (some (.int v)) σ := ru_iretI f_String_length_10
theorem f_String_charAt_0 : am_cd k_String_charAt 0 = some ((some .char), .aload_n 0, (0, 0, 0, 0, 0, .null)) := rfl
theorem s_String_charAt_0 {a1 : Option Value} {st : List Value} {σ : am_H} {Q : Option Value → am_H → Prop} {x : Nat} : ax k_String_charAt 0 [some (.ref x), a1] st σ Q = ax k_String_charAt 1 [some (.ref x), a1] (.ref x :: st) σ Q := ru_loc (q := (_, _)) f_String_charAt_0 rfl rfl rfl
theorem f_String_charAt_1 : am_cd k_String_charAt 1 = some ((some .char), .invokevirtual 492, (177, 0, 624, 0, 12, .null)) := rfl
theorem s_String_charAt_1 {ls : am_L} {st : List Value} {σ : am_H} {Q : Option Value → am_H → Prop} {b : Nat} (hi : am_is σ b 12) (h8 : am_s8 st) : ax k_String_charAt 1 ls (.ref b :: st) σ Q = ax k_String_isLatin1 0 [some (.ref b)] [] σ (ax_k k_String_charAt 4 ls st Q) := ru_vir (M' := rk_String_isLatin1) f_String_charAt_1 rfl rfl rfl rfl hi h8 rfl rfl rfl rfl rfl
theorem f_String_charAt_4 : am_cd k_String_charAt 4 = some ((some .char), .ifCond .eq 12, (16, 0, 0, 0, 0, .null)) := rfl
theorem s_String_charAt_4 {ls : am_L} {st : List Value} {σ : am_H} {Q : Option Value → am_H → Prop} {x : Int32} : ax k_String_charAt 4 ls (.int x :: st) σ Q = (if x = 0 then ax k_String_charAt 16 ls st σ Q else ax k_String_charAt 7 ls st σ Q) := (ru_if f_String_charAt_4 rfl).trans (ru_i_eq _ _ _ _)
theorem f_String_charAt_7 : am_cd k_String_charAt 7 = some ((some .char), .aload_n 0, (0, 0, 0, 0, 0, .null)) := rfl
theorem s_String_charAt_7 {a1 : Option Value} {st : List Value} {σ : am_H} {Q : Option Value → am_H → Prop} {x : Nat} : ax k_String_charAt 7 [some (.ref x), a1] st σ Q = ax k_String_charAt 8 [some (.ref x), a1] (.ref x :: st) σ Q := ru_loc (q := (_, _)) f_String_charAt_7 rfl rfl rfl
theorem f_String_charAt_8 : am_cd k_String_charAt 8 = some ((some .char), .getfield 9, (12, 0, 1346, 0, 0, .null)) := rfl
theorem s_String_charAt_8 {ls : am_L} {st : List Value} {σ : am_H} {Q : Option Value → am_H → Prop} {a : Nat} : ax k_String_charAt 8 ls (.ref a :: st) σ Q = ax_f (am_fld σ a 12 0) (fun v => ax k_String_charAt 11 ls (v :: st) σ Q) := ru_getf f_String_charAt_8 rfl
theorem f_String_charAt_11 : am_cd k_String_charAt 11 = some ((some .char), .iload_n 1, (0, 0, 0, 0, 0, .null)) := rfl
theorem s_String_charAt_11 {a0 : Option Value} {st : List Value} {σ : am_H} {Q : Option Value → am_H → Prop} {x : Int32} : ax k_String_charAt 11 [a0, some (.int x)] st σ Q = ax k_String_charAt 12 [a0, some (.int x)] (.int x :: st) σ Q := ru_loc (q := (_, _)) f_String_charAt_11 rfl rfl rfl
theorem f_String_charAt_12 : am_cd k_String_charAt 12 = some ((some .char), .invokestatic 495, (179, 2, 628, 0, 12, .null)) := rfl
theorem s_String_charAt_12 {ls : am_L} {st : List Value} {σ : am_H} {Q : Option Value → am_H → Prop} {p0 : Nat} {p1 : Int32} (h8 : am_s8 st) : ax k_String_charAt 12 ls (.int p1 :: .ref p0 :: st) σ Q = ax k_StringLatin1_charAt 0 [some (.ref p0), some (.int p1)] [] σ (ax_k k_String_charAt 15 ls st Q) := ru_sta (M' := rk_StringLatin1_charAt) f_String_charAt_12 rfl (by decide) rfl (by simp) rfl h8 rfl rfl rfl rfl rfl
theorem f_String_charAt_15 : am_cd k_String_charAt 15 = some ((some .char), .ireturn, (0, 0, 0, 0, 0, .null)) := rfl
theorem s_String_charAt_15 {ls : am_L} {σ : am_H} {Q : Option Value → am_H → Prop} {v : Int32} : ax k_String_charAt 15 ls ([.int v]) σ Q = (am_nar .char v = true ∧ Q (some (.int v)) σ) := ru_iret f_String_charAt_15
theorem f_String_charAt_16 : am_cd k_String_charAt 16 = some ((some .char), .aload_n 0, (0, 0, 0, 0, 0, .null)) := rfl
theorem s_String_charAt_16 {a1 : Option Value} {st : List Value} {σ : am_H} {Q : Option Value → am_H → Prop} {x : Nat} : ax k_String_charAt 16 [some (.ref x), a1] st σ Q = ax k_String_charAt 17 [some (.ref x), a1] (.ref x :: st) σ Q := ru_loc (q := (_, _)) f_String_charAt_16 rfl rfl rfl
theorem f_String_charAt_17 : am_cd k_String_charAt 17 = some ((some .char), .getfield 9, (12, 0, 1346, 0, 0, .null)) := rfl
theorem s_String_charAt_17 {ls : am_L} {st : List Value} {σ : am_H} {Q : Option Value → am_H → Prop} {a : Nat} : ax k_String_charAt 17 ls (.ref a :: st) σ Q = ax_f (am_fld σ a 12 0) (fun v => ax k_String_charAt 20 ls (v :: st) σ Q) := ru_getf f_String_charAt_17 rfl
theorem f_String_charAt_20 : am_cd k_String_charAt 20 = some ((some .char), .iload_n 1, (0, 0, 0, 0, 0, .null)) := rfl
theorem s_String_charAt_20 {a0 : Option Value} {st : List Value} {σ : am_H} {Q : Option Value → am_H → Prop} {x : Int32} : ax k_String_charAt 20 [a0, some (.int x)] st σ Q = ax k_String_charAt 21 [a0, some (.int x)] (.int x :: st) σ Q := ru_loc (q := (_, _)) f_String_charAt_20 rfl rfl rfl
theorem f_String_charAt_24 : am_cd k_String_charAt 24 = some ((some .char), .ireturn, (0, 0, 0, 0, 0, .null)) := rfl
theorem s_String_charAt_24 {ls : am_L} {σ : am_H} {Q : Option Value → am_H → Prop} {v : Int32} : ax k_String_charAt 24 ls ([.int v]) σ Q = (am_nar .char v = true ∧ Q (some (.int v)) σ) := ru_iret f_String_charAt_24
theorem f_String_coder_0 : am_cd k_String_coder 0 = some ((some .byte), .getstatic 38, (0, 0, 618, 0, 0, .int 1)) := rfl
theorem s_String_coder_0 {ls : am_L} {st : List Value} {σ : am_H} {Q : Option Value → am_H → Prop} : ax k_String_coder 0 ls st σ Q = ax k_String_coder 3 ls (.int 1 :: st) σ Q := ru_rd f_String_coder_0 rfl rfl rfl rfl rfl
theorem f_String_coder_3 : am_cd k_String_coder 3 = some ((some .byte), .ifCond .eq 10, (13, 0, 0, 0, 0, .null)) := rfl
theorem s_String_coder_3 {ls : am_L} {st : List Value} {σ : am_H} {Q : Option Value → am_H → Prop} {x : Int32} : ax k_String_coder 3 ls (.int x :: st) σ Q = (if x = 0 then ax k_String_coder 13 ls st σ Q else ax k_String_coder 6 ls st σ Q) := (ru_if f_String_coder_3 rfl).trans (ru_i_eq _ _ _ _)
theorem f_String_coder_6 : am_cd k_String_coder 6 = some ((some .byte), .aload_n 0, (0, 0, 0, 0, 0, .null)) := rfl
theorem s_String_coder_6 {st : List Value} {σ : am_H} {Q : Option Value → am_H → Prop} {x : Nat} : ax k_String_coder 6 [some (.ref x)] st σ Q = ax k_String_coder 7 [some (.ref x)] (.ref x :: st) σ Q := ru_loc (q := (_, _)) f_String_coder_6 rfl rfl rfl
theorem f_String_coder_7 : am_cd k_String_coder 7 = some ((some .byte), .getfield 15, (12, 1, 1347, 0, 0, .null)) := rfl
theorem s_String_coder_7 {ls : am_L} {st : List Value} {σ : am_H} {Q : Option Value → am_H → Prop} {a : Nat} : ax k_String_coder 7 ls (.ref a :: st) σ Q = ax_f (am_fld σ a 12 1) (fun v => ax k_String_coder 10 ls (v :: st) σ Q) := ru_getf f_String_coder_7 rfl
theorem f_String_coder_10 : am_cd k_String_coder 10 = some ((some .byte), .goto 4, (14, 0, 0, 0, 0, .null)) := rfl
theorem s_String_coder_10 {ls : am_L} {st : List Value} {σ : am_H} {Q : Option Value → am_H → Prop} : ax k_String_coder 10 ls st σ Q = ax k_String_coder 14 ls st σ Q := ru_goto f_String_coder_10
theorem f_String_coder_13 : am_cd k_String_coder 13 = some ((some .byte), .iconst 1, (0, 0, 0, 0, 0, .null)) := rfl
theorem s_String_coder_13 {ls : am_L} {st : List Value} {σ : am_H} {Q : Option Value → am_H → Prop} : ax k_String_coder 13 ls st σ Q = ax k_String_coder 14 ls (.int 1 :: st) σ Q := ru_iconst f_String_coder_13 (by decide +kernel) rfl
theorem f_String_coder_14 : am_cd k_String_coder 14 = some ((some .byte), .ireturn, (0, 0, 0, 0, 0, .null)) := rfl
theorem s_String_coder_14 {ls : am_L} {σ : am_H} {Q : Option Value → am_H → Prop} {v : Int32} : ax k_String_coder 14 ls ([.int v]) σ Q = (am_nar .byte v = true ∧ Q (some (.int v)) σ) := ru_iret f_String_coder_14
theorem f_String_isLatin1_0 : am_cd k_String_isLatin1 0 = some ((some .boolean), .getstatic 38, (0, 0, 618, 0, 0, .int 1)) := rfl
theorem s_String_isLatin1_0 {ls : am_L} {st : List Value} {σ : am_H} {Q : Option Value → am_H → Prop} : ax k_String_isLatin1 0 ls st σ Q = ax k_String_isLatin1 3 ls (.int 1 :: st) σ Q := ru_rd f_String_isLatin1_0 rfl rfl rfl rfl rfl
theorem f_String_isLatin1_3 : am_cd k_String_isLatin1 3 = some ((some .boolean), .ifCond .eq 14, (17, 0, 0, 0, 0, .null)) := rfl
theorem s_String_isLatin1_3 {ls : am_L} {st : List Value} {σ : am_H} {Q : Option Value → am_H → Prop} {x : Int32} : ax k_String_isLatin1 3 ls (.int x :: st) σ Q = (if x = 0 then ax k_String_isLatin1 17 ls st σ Q else ax k_String_isLatin1 6 ls st σ Q) := (ru_if f_String_isLatin1_3 rfl).trans (ru_i_eq _ _ _ _)
theorem f_String_isLatin1_6 : am_cd k_String_isLatin1 6 = some ((some .boolean), .aload_n 0, (0, 0, 0, 0, 0, .null)) := rfl
theorem s_String_isLatin1_6 {st : List Value} {σ : am_H} {Q : Option Value → am_H → Prop} {x : Nat} : ax k_String_isLatin1 6 [some (.ref x)] st σ Q = ax k_String_isLatin1 7 [some (.ref x)] (.ref x :: st) σ Q := ru_loc (q := (_, _)) f_String_isLatin1_6 rfl rfl rfl
theorem f_String_isLatin1_7 : am_cd k_String_isLatin1 7 = some ((some .boolean), .getfield 15, (12, 1, 1347, 0, 0, .null)) := rfl
theorem s_String_isLatin1_7 {ls : am_L} {st : List Value} {σ : am_H} {Q : Option Value → am_H → Prop} {a : Nat} : ax k_String_isLatin1 7 ls (.ref a :: st) σ Q = ax_f (am_fld σ a 12 1) (fun v => ax k_String_isLatin1 10 ls (v :: st) σ Q) := ru_getf f_String_isLatin1_7 rfl
theorem f_String_isLatin1_10 : am_cd k_String_isLatin1 10 = some ((some .boolean), .ifCond .ne 7, (17, 0, 0, 0, 0, .null)) := rfl
theorem s_String_isLatin1_10 {ls : am_L} {st : List Value} {σ : am_H} {Q : Option Value → am_H → Prop} {x : Int32} : ax k_String_isLatin1 10 ls (.int x :: st) σ Q = (if x = 0 then ax k_String_isLatin1 13 ls st σ Q else ax k_String_isLatin1 17 ls st σ Q) := (ru_if f_String_isLatin1_10 rfl).trans (ru_i_ne _ _ _ _)
theorem f_String_isLatin1_13 : am_cd k_String_isLatin1 13 = some ((some .boolean), .iconst 1, (0, 0, 0, 0, 0, .null)) := rfl
theorem s_String_isLatin1_13 {ls : am_L} {st : List Value} {σ : am_H} {Q : Option Value → am_H → Prop} : ax k_String_isLatin1 13 ls st σ Q = ax k_String_isLatin1 14 ls (.int 1 :: st) σ Q := ru_iconst f_String_isLatin1_13 (by decide +kernel) rfl
theorem f_String_isLatin1_14 : am_cd k_String_isLatin1 14 = some ((some .boolean), .goto 4, (18, 0, 0, 0, 0, .null)) := rfl
theorem s_String_isLatin1_14 {ls : am_L} {st : List Value} {σ : am_H} {Q : Option Value → am_H → Prop} : ax k_String_isLatin1 14 ls st σ Q = ax k_String_isLatin1 18 ls st σ Q := ru_goto f_String_isLatin1_14
theorem f_String_isLatin1_17 : am_cd k_String_isLatin1 17 = some ((some .boolean), .iconst 0, (0, 0, 0, 0, 0, .null)) := rfl
theorem s_String_isLatin1_17 {ls : am_L} {st : List Value} {σ : am_H} {Q : Option Value → am_H → Prop} : ax k_String_isLatin1 17 ls st σ Q = ax k_String_isLatin1 18 ls (.int 0 :: st) σ Q := ru_iconst f_String_isLatin1_17 (by decide +kernel) rfl
theorem f_String_isLatin1_18 : am_cd k_String_isLatin1 18 = some ((some .boolean), .ireturn, (0, 0, 0, 0, 0, .null)) := rfl
theorem s_String_isLatin1_18 {ls : am_L} {σ : am_H} {Q : Option Value → am_H → Prop} {v : Int32} : ax k_String_isLatin1 18 ls ([.int v]) σ Q = (am_nar .boolean v = true ∧ Q (some (.int v)) σ) := ru_iret f_String_isLatin1_18
theorem f_String_checkIndex_0 : am_cd k_String_checkIndex 0 = some (none, .iload_n 0, (0, 0, 0, 0, 0, .null)) := rfl
theorem s_String_checkIndex_0 {a1 : Option Value} {st : List Value} {σ : am_H} {Q : Option Value → am_H → Prop} {x : Int32} : ax k_String_checkIndex 0 [some (.int x), a1] st σ Q = ax k_String_checkIndex 1 [some (.int x), a1] (.int x :: st) σ Q := ru_loc (q := (_, _)) f_String_checkIndex_0 rfl rfl rfl
theorem f_String_checkIndex_1 : am_cd k_String_checkIndex 1 = some (none, .iload_n 1, (0, 0, 0, 0, 0, .null)) := rfl
theorem s_String_checkIndex_1 {a0 : Option Value} {st : List Value} {σ : am_H} {Q : Option Value → am_H → Prop} {x : Int32} : ax k_String_checkIndex 1 [a0, some (.int x)] st σ Q = ax k_String_checkIndex 2 [a0, some (.int x)] (.int x :: st) σ Q := ru_loc (q := (_, _)) f_String_checkIndex_1 rfl rfl rfl
theorem f_String_checkIndex_2 : am_cd k_String_checkIndex 2 = some (none, .getstatic 1053, (0, 0, 634, 0, 0, .retAddr 0)) := rfl
theorem s_String_checkIndex_2 {ls : am_L} {st : List Value} {σ : am_H} {Q : Option Value → am_H → Prop} : ax k_String_checkIndex 2 ls st σ Q = ax k_String_checkIndex 5 ls (.retAddr 0 :: st) σ Q := ru_rd f_String_checkIndex_2 rfl rfl rfl rfl rfl
theorem f_String_checkIndex_5 : am_cd k_String_checkIndex 5 = some (none, .invokestatic 1059, (182, 3, 636, 0, 12, .null)) := rfl
theorem s_String_checkIndex_5 {ls : am_L} {st : List Value} {σ : am_H} {Q : Option Value → am_H → Prop} {p0 : Int32} {p1 : Int32} (h8 : am_s8 st) : ax k_String_checkIndex 5 ls (.retAddr 0 :: .int p1 :: .int p0 :: st) σ Q = ax k_Preconditions_checkIndex 0 [some (.int p0), some (.int p1), some (.retAddr 0)] [] σ (ax_k k_String_checkIndex 8 ls st Q) := ru_sta (M' := rk_Preconditions_checkIndex) f_String_checkIndex_5 rfl (by decide) rfl (by simp) rfl h8 rfl rfl rfl rfl rfl
theorem f_String_checkIndex_8 : am_cd k_String_checkIndex 8 = some (none, .pop, (0, 0, 0, 0, 0, .null)) := rfl
theorem s_String_checkIndex_8 {ls : am_L} {st : List Value} {σ : am_H} {Q : Option Value → am_H → Prop} {x : Int32} : ax k_String_checkIndex 8 ls (.int x :: st) σ Q = ax k_String_checkIndex 9 ls st σ Q := ru_pure f_String_checkIndex_8 rfl rfl
theorem f_String_checkIndex_9 : am_cd k_String_checkIndex 9 = some (none, .return_, (0, 0, 0, 0, 0, .null)) := rfl
theorem s_String_checkIndex_9 {ls : am_L} {σ : am_H} {Q : Option Value → am_H → Prop} : ax k_String_checkIndex 9 ls ([]) σ Q = Q none σ := ru_ret f_String_checkIndex_9 rfl rfl rfl rfl rfl rfl rfl
theorem f_StringLatin1_charAt_0 : am_cd k_StringLatin1_charAt 0 = some ((some .char), .iload_n 1, (0, 0, 0, 0, 0, .null)) := rfl
theorem s_StringLatin1_charAt_0 {a0 : Option Value} {st : List Value} {σ : am_H} {Q : Option Value → am_H → Prop} {x : Int32} : ax k_StringLatin1_charAt 0 [a0, some (.int x)] st σ Q = ax k_StringLatin1_charAt 1 [a0, some (.int x)] (.int x :: st) σ Q := ru_loc (q := (_, _)) f_StringLatin1_charAt_0 rfl rfl rfl
theorem f_StringLatin1_charAt_1 : am_cd k_StringLatin1_charAt 1 = some ((some .char), .aload_n 0, (0, 0, 0, 0, 0, .null)) := rfl
theorem s_StringLatin1_charAt_1 {a1 : Option Value} {st : List Value} {σ : am_H} {Q : Option Value → am_H → Prop} {x : Nat} : ax k_StringLatin1_charAt 1 [some (.ref x), a1] st σ Q = ax k_StringLatin1_charAt 2 [some (.ref x), a1] (.ref x :: st) σ Q := ru_loc (q := (_, _)) f_StringLatin1_charAt_1 rfl rfl rfl
theorem f_StringLatin1_charAt_2 : am_cd k_StringLatin1_charAt 2 = some ((some .char), .arraylength, (0, 0, 0, 0, 0, .null)) := rfl
theorem s_StringLatin1_charAt_2 {ls : am_L} {st : List Value} {σ : am_H} {Q : Option Value → am_H → Prop} {a : Nat} : ax k_StringLatin1_charAt 2 ls (.ref a :: st) σ Q = ax_f (am_nv σ a) (fun n => ax k_StringLatin1_charAt 3 ls (.int (Int32.ofNat n) :: st) σ Q) := ru_alen f_StringLatin1_charAt_2 rfl
theorem f_StringLatin1_charAt_3 : am_cd k_StringLatin1_charAt 3 = some ((some .char), .invokestatic 9, (178, 2, 631, 0, 12, .null)) := rfl
theorem s_StringLatin1_charAt_3 {ls : am_L} {st : List Value} {σ : am_H} {Q : Option Value → am_H → Prop} {p0 : Int32} {p1 : Int32} (h8 : am_s8 st) : ax k_StringLatin1_charAt 3 ls (.int p1 :: .int p0 :: st) σ Q = ax k_String_checkIndex 0 [some (.int p0), some (.int p1)] [] σ (ax_k k_StringLatin1_charAt 6 ls st Q) := ru_sta (M' := rk_String_checkIndex) f_StringLatin1_charAt_3 rfl (by decide) rfl (by simp) rfl h8 rfl rfl rfl rfl rfl
theorem f_StringLatin1_charAt_6 : am_cd k_StringLatin1_charAt 6 = some ((some .char), .aload_n 0, (0, 0, 0, 0, 0, .null)) := rfl
theorem s_StringLatin1_charAt_6 {a1 : Option Value} {st : List Value} {σ : am_H} {Q : Option Value → am_H → Prop} {x : Nat} : ax k_StringLatin1_charAt 6 [some (.ref x), a1] st σ Q = ax k_StringLatin1_charAt 7 [some (.ref x), a1] (.ref x :: st) σ Q := ru_loc (q := (_, _)) f_StringLatin1_charAt_6 rfl rfl rfl
theorem f_StringLatin1_charAt_7 : am_cd k_StringLatin1_charAt 7 = some ((some .char), .iload_n 1, (0, 0, 0, 0, 0, .null)) := rfl
theorem s_StringLatin1_charAt_7 {a0 : Option Value} {st : List Value} {σ : am_H} {Q : Option Value → am_H → Prop} {x : Int32} : ax k_StringLatin1_charAt 7 [a0, some (.int x)] st σ Q = ax k_StringLatin1_charAt 8 [a0, some (.int x)] (.int x :: st) σ Q := ru_loc (q := (_, _)) f_StringLatin1_charAt_7 rfl rfl rfl
theorem f_StringLatin1_charAt_8 : am_cd k_StringLatin1_charAt 8 = some ((some .char), .baload, (0, 0, 0, 0, 0, .null)) := rfl
theorem s_StringLatin1_charAt_8 {ls : am_L} {st : List Value} {σ : am_H} {Q : Option Value → am_H → Prop} {a : Nat} {j : Int32} : ax k_StringLatin1_charAt 8 ls (.int j :: .ref a :: st) σ Q = ax_f (am_j σ a) (fun q => (q.1 = 1 ∨ q.1 = 2) ∧ am_ix j q.2.1 ∧ ax k_StringLatin1_charAt 9 ls (.int (q.2.2 j.toNatClampNeg) :: st) σ Q) := rv_bald f_StringLatin1_charAt_8 rfl
theorem f_StringLatin1_charAt_9 : am_cd k_StringLatin1_charAt 9 = some ((some .char), .sipush 255, (0, 0, 0, 0, 0, .null)) := rfl
theorem s_StringLatin1_charAt_9 {ls : am_L} {st : List Value} {σ : am_H} {Q : Option Value → am_H → Prop} : ax k_StringLatin1_charAt 9 ls st σ Q = ax k_StringLatin1_charAt 12 ls (.int 255 :: st) σ Q := ru_sipush f_StringLatin1_charAt_9 (by decide +kernel) rfl
theorem f_StringLatin1_charAt_12 : am_cd k_StringLatin1_charAt 12 = some ((some .char), .iand, (0, 0, 0, 0, 0, .null)) := rfl
theorem s_StringLatin1_charAt_12 {ls : am_L} {st : List Value} {σ : am_H} {Q : Option Value → am_H → Prop} {x y : Int32} : ax k_StringLatin1_charAt 12 ls (.int y :: .int x :: st) σ Q = ax k_StringLatin1_charAt 13 ls (.int (x &&& y) :: st) σ Q := ru_pure f_StringLatin1_charAt_12 rfl rfl
theorem f_StringLatin1_charAt_13 : am_cd k_StringLatin1_charAt 13 = some ((some .char), .i2c, (0, 0, 0, 0, 0, .null)) := rfl
theorem s_StringLatin1_charAt_13 {ls : am_L} {st : List Value} {σ : am_H} {Q : Option Value → am_H → Prop} {x : Int32} : ax k_StringLatin1_charAt 13 ls (.int x :: st) σ Q = ax k_StringLatin1_charAt 14 ls (.int (x.toUInt32 % 65536).toInt32 :: st) σ Q := ru_pure f_StringLatin1_charAt_13 rfl rfl
theorem f_StringLatin1_charAt_14 : am_cd k_StringLatin1_charAt 14 = some ((some .char), .ireturn, (0, 0, 0, 0, 0, .null)) := rfl
theorem s_StringLatin1_charAt_14 {ls : am_L} {σ : am_H} {Q : Option Value → am_H → Prop} {v : Int32} : ax k_StringLatin1_charAt 14 ls ([.int v]) σ Q = (am_nar .char v = true ∧ Q (some (.int v)) σ) := ru_iret f_StringLatin1_charAt_14
theorem f_Arrays_fill_0 : am_cd k_Arrays_fill 0 = some (none, .iconst 0, (0, 0, 0, 0, 0, .null)) := rfl
theorem s_Arrays_fill_0 {ls : am_L} {st : List Value} {σ : am_H} {Q : Option Value → am_H → Prop} : ax k_Arrays_fill 0 ls st σ Q = ax k_Arrays_fill 1 ls (.int 0 :: st) σ Q := ru_iconst f_Arrays_fill_0 (by decide +kernel) rfl
theorem f_Arrays_fill_1 : am_cd k_Arrays_fill 1 = some (none, .istore_n 3, (0, 0, 0, 0, 0, .null)) := rfl
theorem s_Arrays_fill_1 {a0 a1 a2 a3 a4 : Option Value} {st : List Value} {σ : am_H} {Q : Option Value → am_H → Prop} {x : Int32} (hc : am_c2 a2 = false) : ax k_Arrays_fill 1 [a0, a1, a2, a3, a4] (.int x :: st) σ Q = ax k_Arrays_fill 2 [a0, a1, a2, some (.int x), a4] st σ Q := ru_istore_n f_Arrays_fill_1 (Nat.le_of_ble_eq_true rfl) (ru_st1 (Nat.le_of_ble_eq_true rfl) (am_clr_c2 hc rfl) rfl) rfl
theorem f_Arrays_fill_2 : am_cd k_Arrays_fill 2 = some (none, .aload_n 0, (0, 0, 0, 0, 0, .null)) := rfl
theorem s_Arrays_fill_2 {a1 a2 a3 a4 : Option Value} {st : List Value} {σ : am_H} {Q : Option Value → am_H → Prop} {x : Nat} : ax k_Arrays_fill 2 [some (.ref x), a1, a2, a3, a4] st σ Q = ax k_Arrays_fill 3 [some (.ref x), a1, a2, a3, a4] (.ref x :: st) σ Q := ru_loc (q := (_, _)) f_Arrays_fill_2 rfl rfl rfl
theorem f_Arrays_fill_3 : am_cd k_Arrays_fill 3 = some (none, .arraylength, (0, 0, 0, 0, 0, .null)) := rfl
theorem s_Arrays_fill_3 {ls : am_L} {st : List Value} {σ : am_H} {Q : Option Value → am_H → Prop} {a : Nat} : ax k_Arrays_fill 3 ls (.ref a :: st) σ Q = ax_f (am_nv σ a) (fun n => ax k_Arrays_fill 4 ls (.int (Int32.ofNat n) :: st) σ Q) := ru_alen f_Arrays_fill_3 rfl
theorem f_Arrays_fill_4 : am_cd k_Arrays_fill 4 = some (none, .istore 4, (0, 0, 0, 0, 0, .null)) := rfl
theorem s_Arrays_fill_4 {a0 a1 a2 a3 a4 : Option Value} {st : List Value} {σ : am_H} {Q : Option Value → am_H → Prop} {x : Int32} (hc : am_c2 a3 = false) : ax k_Arrays_fill 4 [a0, a1, a2, a3, a4] (.int x :: st) σ Q = ax k_Arrays_fill 6 [a0, a1, a2, a3, some (.int x)] st σ Q := ru_istore f_Arrays_fill_4 (Nat.le_of_ble_eq_true rfl) (ru_st1 (Nat.le_of_ble_eq_true rfl) (am_clr_c2 hc rfl) rfl) rfl
theorem f_Arrays_fill_6 : am_cd k_Arrays_fill 6 = some (none, .iload_n 3, (0, 0, 0, 0, 0, .null)) := rfl
theorem s_Arrays_fill_6 {a0 a1 a2 a4 : Option Value} {st : List Value} {σ : am_H} {Q : Option Value → am_H → Prop} {x : Int32} : ax k_Arrays_fill 6 [a0, a1, a2, some (.int x), a4] st σ Q = ax k_Arrays_fill 7 [a0, a1, a2, some (.int x), a4] (.int x :: st) σ Q := ru_loc (q := (_, _)) f_Arrays_fill_6 rfl rfl rfl
theorem f_Arrays_fill_7 : am_cd k_Arrays_fill 7 = some (none, .iload 4, (0, 0, 0, 0, 0, .null)) := rfl
theorem s_Arrays_fill_7 {a0 a1 a2 a3 : Option Value} {st : List Value} {σ : am_H} {Q : Option Value → am_H → Prop} {x : Int32} : ax k_Arrays_fill 7 [a0, a1, a2, a3, some (.int x)] st σ Q = ax k_Arrays_fill 9 [a0, a1, a2, a3, some (.int x)] (.int x :: st) σ Q := ru_loc (q := (_, _)) f_Arrays_fill_7 rfl rfl rfl
theorem f_Arrays_fill_9 : am_cd k_Arrays_fill 9 = some (none, .if_icmp .ge 13, (22, 0, 0, 0, 0, .null)) := rfl
theorem s_Arrays_fill_9 {ls : am_L} {st : List Value} {σ : am_H} {Q : Option Value → am_H → Prop} {x y : Int32} : ax k_Arrays_fill 9 ls (.int y :: .int x :: st) σ Q = (if x < y then ax k_Arrays_fill 12 ls st σ Q else ax k_Arrays_fill 22 ls st σ Q) := (ru_icmp f_Arrays_fill_9 rfl).trans (ru_i_ge _ _ _ _)
theorem f_Arrays_fill_12 : am_cd k_Arrays_fill 12 = some (none, .aload_n 0, (0, 0, 0, 0, 0, .null)) := rfl
theorem s_Arrays_fill_12 {a1 a2 a3 a4 : Option Value} {st : List Value} {σ : am_H} {Q : Option Value → am_H → Prop} {x : Nat} : ax k_Arrays_fill 12 [some (.ref x), a1, a2, a3, a4] st σ Q = ax k_Arrays_fill 13 [some (.ref x), a1, a2, a3, a4] (.ref x :: st) σ Q := ru_loc (q := (_, _)) f_Arrays_fill_12 rfl rfl rfl
theorem f_Arrays_fill_13 : am_cd k_Arrays_fill 13 = some (none, .iload_n 3, (0, 0, 0, 0, 0, .null)) := rfl
theorem s_Arrays_fill_13 {a0 a1 a2 a4 : Option Value} {st : List Value} {σ : am_H} {Q : Option Value → am_H → Prop} {x : Int32} : ax k_Arrays_fill 13 [a0, a1, a2, some (.int x), a4] st σ Q = ax k_Arrays_fill 14 [a0, a1, a2, some (.int x), a4] (.int x :: st) σ Q := ru_loc (q := (_, _)) f_Arrays_fill_13 rfl rfl rfl
theorem f_Arrays_fill_14 : am_cd k_Arrays_fill 14 = some (none, .lload_n 1, (0, 0, 0, 0, 0, .null)) := rfl
theorem s_Arrays_fill_14 {a0 a2 a3 a4 : Option Value} {st : List Value} {σ : am_H} {Q : Option Value → am_H → Prop} {x : Int64} : ax k_Arrays_fill 14 [a0, some (.long x), a2, a3, a4] st σ Q = ax k_Arrays_fill 15 [a0, some (.long x), a2, a3, a4] (.long x :: st) σ Q := ru_loc (q := (_, _)) f_Arrays_fill_14 rfl rfl rfl
theorem f_Arrays_fill_15 : am_cd k_Arrays_fill 15 = some (none, .lastore, (0, 0, 0, 0, 0, .null)) := rfl
theorem s_Arrays_fill_15 {ls : am_L} {st : List Value} {σ : am_H} {Q : Option Value → am_H → Prop} {a : Nat} {j : Int32} {x : Int64} : ax k_Arrays_fill 15 ls (.long x :: .int j :: .ref a :: st) σ Q = ax_f (am_lv σ a) (fun q => am_ix j q.1 ∧ a < am_top ∧ ax k_Arrays_fill 16 ls st (am_set σ a (am_la q.1 (vp_updL q.2 j.toNatClampNeg x))) Q) := ru_last f_Arrays_fill_15 rfl
theorem f_Arrays_fill_16 : am_cd k_Arrays_fill 16 = some (none, .iinc 3 1, (0, 0, 0, 0, 0, .null)) := rfl
theorem s_Arrays_fill_16 {a0 a1 a2 a4 : Option Value} {st : List Value} {σ : am_H} {Q : Option Value → am_H → Prop} {x : Int32} (hc : am_c2 a2 = false) : ax k_Arrays_fill 16 [a0, a1, a2, some (.int x), a4] st σ Q = ax k_Arrays_fill 19 [a0, a1, a2, some (.int (x + 1)), a4] st σ Q := ru_iinc f_Arrays_fill_16 rfl (Nat.le_of_ble_eq_true rfl) (by decide +kernel) (ru_st1 (Nat.le_of_ble_eq_true rfl) (am_clr_c2 hc rfl) rfl) rfl
theorem f_Arrays_fill_19 : am_cd k_Arrays_fill 19 = some (none, .goto (-13), (6, 0, 0, 0, 0, .null)) := rfl
theorem s_Arrays_fill_19 {ls : am_L} {st : List Value} {σ : am_H} {Q : Option Value → am_H → Prop} : ax k_Arrays_fill 19 ls st σ Q = ax k_Arrays_fill 6 ls st σ Q := ru_goto f_Arrays_fill_19
theorem f_Arrays_fill_22 : am_cd k_Arrays_fill 22 = some (none, .return_, (0, 0, 0, 0, 0, .null)) := rfl
theorem s_Arrays_fill_22 {ls : am_L} {σ : am_H} {Q : Option Value → am_H → Prop} : ax k_Arrays_fill 22 ls ([]) σ Q = Q none σ := ru_ret f_Arrays_fill_22 rfl rfl rfl rfl rfl rfl rfl
theorem f_Arrays_fill_IIV_0 : am_cd k_Arrays_fill_IIV 0 = some (none, .iconst 0, (0, 0, 0, 0, 0, .null)) := rfl
theorem s_Arrays_fill_IIV_0 {ls : am_L} {st : List Value} {σ : am_H} {Q : Option Value → am_H → Prop} : ax k_Arrays_fill_IIV 0 ls st σ Q = ax k_Arrays_fill_IIV 1 ls (.int 0 :: st) σ Q := ru_iconst f_Arrays_fill_IIV_0 (by decide +kernel) rfl
theorem f_Arrays_fill_IIV_1 : am_cd k_Arrays_fill_IIV 1 = some (none, .istore_n 2, (0, 0, 0, 0, 0, .null)) := rfl
theorem s_Arrays_fill_IIV_1 {a0 a1 a2 a3 : Option Value} {st : List Value} {σ : am_H} {Q : Option Value → am_H → Prop} {x : Int32} (hc : am_c2 a1 = false) : ax k_Arrays_fill_IIV 1 [a0, a1, a2, a3] (.int x :: st) σ Q = ax k_Arrays_fill_IIV 2 [a0, a1, some (.int x), a3] st σ Q := ru_istore_n f_Arrays_fill_IIV_1 (Nat.le_of_ble_eq_true rfl) (ru_st1 (Nat.le_of_ble_eq_true rfl) (am_clr_c2 hc rfl) rfl) rfl
theorem f_Arrays_fill_IIV_2 : am_cd k_Arrays_fill_IIV 2 = some (none, .aload_n 0, (0, 0, 0, 0, 0, .null)) := rfl
theorem s_Arrays_fill_IIV_2 {a1 a2 a3 : Option Value} {st : List Value} {σ : am_H} {Q : Option Value → am_H → Prop} {x : Nat} : ax k_Arrays_fill_IIV 2 [some (.ref x), a1, a2, a3] st σ Q = ax k_Arrays_fill_IIV 3 [some (.ref x), a1, a2, a3] (.ref x :: st) σ Q := ru_loc (q := (_, _)) f_Arrays_fill_IIV_2 rfl rfl rfl
theorem f_Arrays_fill_IIV_3 : am_cd k_Arrays_fill_IIV 3 = some (none, .arraylength, (0, 0, 0, 0, 0, .null)) := rfl
theorem s_Arrays_fill_IIV_3 {ls : am_L} {st : List Value} {σ : am_H} {Q : Option Value → am_H → Prop} {a : Nat} : ax k_Arrays_fill_IIV 3 ls (.ref a :: st) σ Q = ax_f (am_nv σ a) (fun n => ax k_Arrays_fill_IIV 4 ls (.int (Int32.ofNat n) :: st) σ Q) := ru_alen f_Arrays_fill_IIV_3 rfl
theorem f_Arrays_fill_IIV_4 : am_cd k_Arrays_fill_IIV 4 = some (none, .istore_n 3, (0, 0, 0, 0, 0, .null)) := rfl
theorem s_Arrays_fill_IIV_4 {a0 a1 a2 a3 : Option Value} {st : List Value} {σ : am_H} {Q : Option Value → am_H → Prop} {x : Int32} (hc : am_c2 a2 = false) : ax k_Arrays_fill_IIV 4 [a0, a1, a2, a3] (.int x :: st) σ Q = ax k_Arrays_fill_IIV 5 [a0, a1, a2, some (.int x)] st σ Q := ru_istore_n f_Arrays_fill_IIV_4 (Nat.le_of_ble_eq_true rfl) (ru_st1 (Nat.le_of_ble_eq_true rfl) (am_clr_c2 hc rfl) rfl) rfl
theorem f_Arrays_fill_IIV_5 : am_cd k_Arrays_fill_IIV 5 = some (none, .iload_n 2, (0, 0, 0, 0, 0, .null)) := rfl
theorem s_Arrays_fill_IIV_5 {a0 a1 a3 : Option Value} {st : List Value} {σ : am_H} {Q : Option Value → am_H → Prop} {x : Int32} : ax k_Arrays_fill_IIV 5 [a0, a1, some (.int x), a3] st σ Q = ax k_Arrays_fill_IIV 6 [a0, a1, some (.int x), a3] (.int x :: st) σ Q := ru_loc (q := (_, _)) f_Arrays_fill_IIV_5 rfl rfl rfl
theorem f_Arrays_fill_IIV_6 : am_cd k_Arrays_fill_IIV 6 = some (none, .iload_n 3, (0, 0, 0, 0, 0, .null)) := rfl
theorem s_Arrays_fill_IIV_6 {a0 a1 a2 : Option Value} {st : List Value} {σ : am_H} {Q : Option Value → am_H → Prop} {x : Int32} : ax k_Arrays_fill_IIV 6 [a0, a1, a2, some (.int x)] st σ Q = ax k_Arrays_fill_IIV 7 [a0, a1, a2, some (.int x)] (.int x :: st) σ Q := ru_loc (q := (_, _)) f_Arrays_fill_IIV_6 rfl rfl rfl
theorem f_Arrays_fill_IIV_7 : am_cd k_Arrays_fill_IIV 7 = some (none, .if_icmp .ge 13, (20, 0, 0, 0, 0, .null)) := rfl
theorem s_Arrays_fill_IIV_7 {ls : am_L} {st : List Value} {σ : am_H} {Q : Option Value → am_H → Prop} {x y : Int32} : ax k_Arrays_fill_IIV 7 ls (.int y :: .int x :: st) σ Q = (if x < y then ax k_Arrays_fill_IIV 10 ls st σ Q else ax k_Arrays_fill_IIV 20 ls st σ Q) := (ru_icmp f_Arrays_fill_IIV_7 rfl).trans (ru_i_ge _ _ _ _)
theorem f_Arrays_fill_IIV_10 : am_cd k_Arrays_fill_IIV 10 = some (none, .aload_n 0, (0, 0, 0, 0, 0, .null)) := rfl
theorem s_Arrays_fill_IIV_10 {a1 a2 a3 : Option Value} {st : List Value} {σ : am_H} {Q : Option Value → am_H → Prop} {x : Nat} : ax k_Arrays_fill_IIV 10 [some (.ref x), a1, a2, a3] st σ Q = ax k_Arrays_fill_IIV 11 [some (.ref x), a1, a2, a3] (.ref x :: st) σ Q := ru_loc (q := (_, _)) f_Arrays_fill_IIV_10 rfl rfl rfl
theorem f_Arrays_fill_IIV_11 : am_cd k_Arrays_fill_IIV 11 = some (none, .iload_n 2, (0, 0, 0, 0, 0, .null)) := rfl
theorem s_Arrays_fill_IIV_11 {a0 a1 a3 : Option Value} {st : List Value} {σ : am_H} {Q : Option Value → am_H → Prop} {x : Int32} : ax k_Arrays_fill_IIV 11 [a0, a1, some (.int x), a3] st σ Q = ax k_Arrays_fill_IIV 12 [a0, a1, some (.int x), a3] (.int x :: st) σ Q := ru_loc (q := (_, _)) f_Arrays_fill_IIV_11 rfl rfl rfl
theorem f_Arrays_fill_IIV_12 : am_cd k_Arrays_fill_IIV 12 = some (none, .iload_n 1, (0, 0, 0, 0, 0, .null)) := rfl
theorem s_Arrays_fill_IIV_12 {a0 a2 a3 : Option Value} {st : List Value} {σ : am_H} {Q : Option Value → am_H → Prop} {x : Int32} : ax k_Arrays_fill_IIV 12 [a0, some (.int x), a2, a3] st σ Q = ax k_Arrays_fill_IIV 13 [a0, some (.int x), a2, a3] (.int x :: st) σ Q := ru_loc (q := (_, _)) f_Arrays_fill_IIV_12 rfl rfl rfl
theorem f_Arrays_fill_IIV_13 : am_cd k_Arrays_fill_IIV 13 = some (none, .iastore, (0, 0, 0, 0, 0, .null)) := rfl
theorem s_Arrays_fill_IIV_13 {ls : am_L} {st : List Value} {σ : am_H} {Q : Option Value → am_H → Prop} {a : Nat} {j x : Int32} : ax k_Arrays_fill_IIV 13 ls (.int x :: .int j :: .ref a :: st) σ Q = ax_f (am_j σ a) (fun q => q.1 = 0 ∧ am_ix j q.2.1 ∧ a < am_top ∧ ax k_Arrays_fill_IIV 14 ls st (am_set σ a (am_ia 0 q.2.1 (upd q.2.2 j.toNatClampNeg x))) Q) := rv_iast f_Arrays_fill_IIV_13 rfl
theorem f_Arrays_fill_IIV_14 : am_cd k_Arrays_fill_IIV 14 = some (none, .iinc 2 1, (0, 0, 0, 0, 0, .null)) := rfl
theorem s_Arrays_fill_IIV_14 {a0 a1 a3 : Option Value} {st : List Value} {σ : am_H} {Q : Option Value → am_H → Prop} {x : Int32} (hc : am_c2 a1 = false) : ax k_Arrays_fill_IIV 14 [a0, a1, some (.int x), a3] st σ Q = ax k_Arrays_fill_IIV 17 [a0, a1, some (.int (x + 1)), a3] st σ Q := ru_iinc f_Arrays_fill_IIV_14 rfl (Nat.le_of_ble_eq_true rfl) (by decide +kernel) (ru_st1 (Nat.le_of_ble_eq_true rfl) (am_clr_c2 hc rfl) rfl) rfl
theorem f_Arrays_fill_IIV_17 : am_cd k_Arrays_fill_IIV 17 = some (none, .goto (-12), (5, 0, 0, 0, 0, .null)) := rfl
theorem s_Arrays_fill_IIV_17 {ls : am_L} {st : List Value} {σ : am_H} {Q : Option Value → am_H → Prop} : ax k_Arrays_fill_IIV 17 ls st σ Q = ax k_Arrays_fill_IIV 5 ls st σ Q := ru_goto f_Arrays_fill_IIV_17
theorem f_Arrays_fill_IIV_20 : am_cd k_Arrays_fill_IIV 20 = some (none, .return_, (0, 0, 0, 0, 0, .null)) := rfl
theorem s_Arrays_fill_IIV_20 {ls : am_L} {σ : am_H} {Q : Option Value → am_H → Prop} : ax k_Arrays_fill_IIV 20 ls ([]) σ Q = Q none σ := ru_ret f_Arrays_fill_IIV_20 rfl rfl rfl rfl rfl rfl rfl
theorem f_Preconditions_checkIndex_0 : am_cd k_Preconditions_checkIndex 0 = some ((some .int), .iload_n 0, (0, 0, 0, 0, 0, .null)) := rfl
theorem s_Preconditions_checkIndex_0 {a1 a2 : Option Value} {st : List Value} {σ : am_H} {Q : Option Value → am_H → Prop} {x : Int32} : ax k_Preconditions_checkIndex 0 [some (.int x), a1, a2] st σ Q = ax k_Preconditions_checkIndex 1 [some (.int x), a1, a2] (.int x :: st) σ Q := ru_loc (q := (_, _)) f_Preconditions_checkIndex_0 rfl rfl rfl
theorem f_Preconditions_checkIndex_1 : am_cd k_Preconditions_checkIndex 1 = some ((some .int), .ifCond .lt 8, (9, 0, 0, 0, 0, .null)) := rfl
theorem s_Preconditions_checkIndex_1 {ls : am_L} {st : List Value} {σ : am_H} {Q : Option Value → am_H → Prop} {x : Int32} : ax k_Preconditions_checkIndex 1 ls (.int x :: st) σ Q = (if x < 0 then ax k_Preconditions_checkIndex 9 ls st σ Q else ax k_Preconditions_checkIndex 4 ls st σ Q) := (ru_if f_Preconditions_checkIndex_1 rfl).trans (ru_i_lt _ _ _ _)
theorem f_Preconditions_checkIndex_4 : am_cd k_Preconditions_checkIndex 4 = some ((some .int), .iload_n 0, (0, 0, 0, 0, 0, .null)) := rfl
theorem s_Preconditions_checkIndex_4 {a1 a2 : Option Value} {st : List Value} {σ : am_H} {Q : Option Value → am_H → Prop} {x : Int32} : ax k_Preconditions_checkIndex 4 [some (.int x), a1, a2] st σ Q = ax k_Preconditions_checkIndex 5 [some (.int x), a1, a2] (.int x :: st) σ Q := ru_loc (q := (_, _)) f_Preconditions_checkIndex_4 rfl rfl rfl
theorem f_Preconditions_checkIndex_5 : am_cd k_Preconditions_checkIndex 5 = some ((some .int), .iload_n 1, (0, 0, 0, 0, 0, .null)) := rfl
theorem s_Preconditions_checkIndex_5 {a0 a2 : Option Value} {st : List Value} {σ : am_H} {Q : Option Value → am_H → Prop} {x : Int32} : ax k_Preconditions_checkIndex 5 [a0, some (.int x), a2] st σ Q = ax k_Preconditions_checkIndex 6 [a0, some (.int x), a2] (.int x :: st) σ Q := ru_loc (q := (_, _)) f_Preconditions_checkIndex_5 rfl rfl rfl
theorem f_Preconditions_checkIndex_6 : am_cd k_Preconditions_checkIndex 6 = some ((some .int), .if_icmp .lt 10, (16, 0, 0, 0, 0, .null)) := rfl
theorem s_Preconditions_checkIndex_6 {ls : am_L} {st : List Value} {σ : am_H} {Q : Option Value → am_H → Prop} {x y : Int32} : ax k_Preconditions_checkIndex 6 ls (.int y :: .int x :: st) σ Q = (if x < y then ax k_Preconditions_checkIndex 16 ls st σ Q else ax k_Preconditions_checkIndex 9 ls st σ Q) := (ru_icmp f_Preconditions_checkIndex_6 rfl).trans (ru_i_lt _ _ _ _)
theorem f_Preconditions_checkIndex_9 : am_cd k_Preconditions_checkIndex 9 = some ((some .int), .aload_n 2, (0, 0, 0, 0, 0, .null)) := rfl
theorem s_Preconditions_checkIndex_9 {a0 a1 : Option Value} {st : List Value} {σ : am_H} {Q : Option Value → am_H → Prop} {x : Nat} : ax k_Preconditions_checkIndex 9 [a0, a1, some (.ref x)] st σ Q = ax k_Preconditions_checkIndex 10 [a0, a1, some (.ref x)] (.ref x :: st) σ Q := ru_loc (q := (_, _)) f_Preconditions_checkIndex_9 rfl rfl rfl
theorem s_Preconditions_checkIndex_9n {a0 a1 : Option Value} {st : List Value} {σ : am_H} {Q : Option Value → am_H → Prop} : ax k_Preconditions_checkIndex 9 [a0, a1, some .null] st σ Q = ax k_Preconditions_checkIndex 10 [a0, a1, some .null] (.null :: st) σ Q := ru_loc (q := (_, _)) f_Preconditions_checkIndex_9 rfl rfl rfl
theorem f_Preconditions_checkIndex_10 : am_cd k_Preconditions_checkIndex 10 = some ((some .int), .iload_n 0, (0, 0, 0, 0, 0, .null)) := rfl
theorem s_Preconditions_checkIndex_10 {a1 a2 : Option Value} {st : List Value} {σ : am_H} {Q : Option Value → am_H → Prop} {x : Int32} : ax k_Preconditions_checkIndex 10 [some (.int x), a1, a2] st σ Q = ax k_Preconditions_checkIndex 11 [some (.int x), a1, a2] (.int x :: st) σ Q := ru_loc (q := (_, _)) f_Preconditions_checkIndex_10 rfl rfl rfl
theorem f_Preconditions_checkIndex_11 : am_cd k_Preconditions_checkIndex 11 = some ((some .int), .iload_n 1, (0, 0, 0, 0, 0, .null)) := rfl
theorem s_Preconditions_checkIndex_11 {a0 a2 : Option Value} {st : List Value} {σ : am_H} {Q : Option Value → am_H → Prop} {x : Int32} : ax k_Preconditions_checkIndex 11 [a0, some (.int x), a2] st σ Q = ax k_Preconditions_checkIndex 12 [a0, some (.int x), a2] (.int x :: st) σ Q := ru_loc (q := (_, _)) f_Preconditions_checkIndex_11 rfl rfl rfl
theorem f_Preconditions_checkIndex_16 : am_cd k_Preconditions_checkIndex 16 = some ((some .int), .iload_n 0, (0, 0, 0, 0, 0, .null)) := rfl
theorem s_Preconditions_checkIndex_16 {a1 a2 : Option Value} {st : List Value} {σ : am_H} {Q : Option Value → am_H → Prop} {x : Int32} : ax k_Preconditions_checkIndex 16 [some (.int x), a1, a2] st σ Q = ax k_Preconditions_checkIndex 17 [some (.int x), a1, a2] (.int x :: st) σ Q := ru_loc (q := (_, _)) f_Preconditions_checkIndex_16 rfl rfl rfl
theorem f_Preconditions_checkIndex_17 : am_cd k_Preconditions_checkIndex 17 = some ((some .int), .ireturn, (0, 0, 0, 0, 0, .null)) := rfl
theorem s_Preconditions_checkIndex_17 {ls : am_L} {σ : am_H} {Q : Option Value → am_H → Prop} {v : Int32} : ax k_Preconditions_checkIndex 17 ls [.int v] σ Q = Q (some (.int v)) σ := ru_iretI f_Preconditions_checkIndex_17
