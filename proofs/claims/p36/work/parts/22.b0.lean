theorem ci_0 : ((.ofNat 3, .ofNat 3) : am_I) = ((Int32.ofInt 3).toInt, (Int32.ofInt 3).toInt) := by decide +kernel
theorem ci_1 : ((.ofNat 0, .ofNat 0) : am_I) = ((Int32.ofInt 0).toInt, (Int32.ofInt 0).toInt) := by decide +kernel
theorem ci_2 : ((.negSucc 3, .negSucc 3) : am_I) = ((Int8.ofInt (-4)).toInt32.toInt, (Int8.ofInt (-4)).toInt32.toInt) := by decide +kernel
theorem ci_3 : ((.ofNat 1, .ofNat 1) : am_I) = ((Int32.ofInt 1).toInt, (Int32.ofInt 1).toInt) := by decide +kernel
theorem ci_4 : ((.ofNat 4, .ofNat 4) : am_I) = ((Int32.ofInt 4).toInt, (Int32.ofInt 4).toInt) := by decide +kernel
theorem ci_5 : ((.ofNat 5, .ofNat 5) : am_I) = ((Int32.ofInt 5).toInt, (Int32.ofInt 5).toInt) := by decide +kernel
theorem ci_6 : ((.ofNat 127, .ofNat 127) : am_I) = ((Int8.ofInt 127).toInt32.toInt, (Int8.ofInt 127).toInt32.toInt) := by decide +kernel
theorem ci_7 : ((.negSucc 0, .negSucc 0) : am_I) = ((Int32.ofInt (-1)).toInt, (Int32.ofInt (-1)).toInt) := by decide +kernel
theorem ci_8 : ((.negSucc 2, .negSucc 2) : am_I) = ((Int8.ofInt (-3)).toInt32.toInt, (Int8.ofInt (-3)).toInt32.toInt) := by decide +kernel
theorem ci_9 : ((.negSucc 9, .negSucc 9) : am_I) = ((Int8.ofInt (-10)).toInt32.toInt, (Int8.ofInt (-10)).toInt32.toInt) := by decide +kernel
theorem ci_10 : ((.ofNat 160, .ofNat 160) : am_I) = ((Int16.ofInt 160).toInt32.toInt, (Int16.ofInt 160).toInt32.toInt) := by decide +kernel
theorem ci_11 : ((.ofNat 6, .ofNat 6) : am_I) = ((Int8.ofInt 6).toInt32.toInt, (Int8.ofInt 6).toInt32.toInt) := by decide +kernel
theorem ci_12 : ((.ofNat 32, .ofNat 32) : am_I) = ((Int8.ofInt 32).toInt32.toInt, (Int8.ofInt 32).toInt32.toInt) := by decide +kernel
theorem ci_13 : ((.ofNat 2, .ofNat 2) : am_I) = ((Int32.ofInt 2).toInt, (Int32.ofInt 2).toInt) := by decide +kernel
theorem ci_14 : ((.ofNat 97, .ofNat 97) : am_I) = ((Int8.ofInt 97).toInt32.toInt, (Int8.ofInt 97).toInt32.toInt) := by decide +kernel
theorem ci_15 : ((.ofNat 122, .ofNat 122) : am_I) = ((Int8.ofInt 122).toInt32.toInt, (Int8.ofInt 122).toInt32.toInt) := by decide +kernel
theorem ci_16 : ((.ofNat 48, .ofNat 48) : am_I) = ((Int8.ofInt 48).toInt32.toInt, (Int8.ofInt 48).toInt32.toInt) := by decide +kernel
theorem ci_17 : ((.ofNat 57, .ofNat 57) : am_I) = ((Int8.ofInt 57).toInt32.toInt, (Int8.ofInt 57).toInt32.toInt) := by decide +kernel
theorem ci_18 : ((.ofNat 59, .ofNat 59) : am_I) = ((Int8.ofInt 59).toInt32.toInt, (Int8.ofInt 59).toInt32.toInt) := by decide +kernel
theorem ci_19 : ((.ofNat 10, .ofNat 10) : am_I) = ((Int8.ofInt 10).toInt32.toInt, (Int8.ofInt 10).toInt32.toInt) := by decide +kernel
theorem ci_20 : ((.ofNat 24, .ofNat 24) : am_I) = ((Int8.ofInt 24).toInt32.toInt, (Int8.ofInt 24).toInt32.toInt) := by decide +kernel
theorem ci_21 : ((.ofNat 9, .ofNat 9) : am_I) = ((Int8.ofInt 9).toInt32.toInt, (Int8.ofInt 9).toInt32.toInt) := by decide +kernel
theorem ci_22 : ((.ofNat 100, .ofNat 100) : am_I) = ((Int8.ofInt 100).toInt32.toInt, (Int8.ofInt 100).toInt32.toInt) := by decide +kernel
theorem ci_23 : ((.ofNat 60, .ofNat 60) : am_I) = ((Int8.ofInt 60).toInt32.toInt, (Int8.ofInt 60).toInt32.toInt) := by decide +kernel
theorem ci_24 : ((.ofNat 1000, .ofNat 1000) : am_I) = ((Int16.ofInt 1000).toInt32.toInt, (Int16.ofInt 1000).toInt32.toInt) := by decide +kernel
theorem ci_25 : ((.ofNat 1024, .ofNat 1024) : am_I) = ((Int16.ofInt 1024).toInt32.toInt, (Int16.ofInt 1024).toInt32.toInt) := by decide +kernel
theorem ci_26 : ((.ofNat 0, .ofNat 0) : am_I) = ((Int64.ofNat 0).toInt, (Int64.ofNat 0).toInt) := by decide +kernel
theorem ci_27 : ((.ofNat 128, .ofNat 128) : am_I) = ((Int64.ofInt 128).toInt, (Int64.ofInt 128).toInt) := by decide +kernel
theorem ci_28 : ((.ofNat 12, .ofNat 12) : am_I) = ((Int8.ofInt 12).toInt32.toInt, (Int8.ofInt 12).toInt32.toInt) := by decide +kernel
theorem ci_29 : ((.negSucc 0, .negSucc 0) : am_I) = ((Int64.ofInt (-1)).toInt, (Int64.ofInt (-1)).toInt) := by decide +kernel
theorem ci_30 : ((.ofNat 1, .ofNat 1) : am_I) = ((Int64.ofNat 1).toInt, (Int64.ofNat 1).toInt) := by decide +kernel
theorem ci_31 : ((.ofNat 10, .ofNat 10) : am_I) = ((Int64.ofInt 10).toInt, (Int64.ofInt 10).toInt) := by decide +kernel
theorem ci_32 : ((.ofNat 8, .ofNat 8) : am_I) = ((Int8.ofInt 8).toInt32.toInt, (Int8.ofInt 8).toInt32.toInt) := by decide +kernel
theorem ci_33 : ((.negSucc 1, .negSucc 1) : am_I) = ((Int8.ofInt (-2)).toInt32.toInt, (Int8.ofInt (-2)).toInt32.toInt) := by decide +kernel
theorem ci_34 : ((.ofNat 1103515245, .ofNat 1103515245) : am_I) = ((Int32.ofInt 1103515245).toInt, (Int32.ofInt 1103515245).toInt) := by decide +kernel
theorem ci_35 : ((.ofNat 12345, .ofNat 12345) : am_I) = ((Int16.ofInt 12345).toInt32.toInt, (Int16.ofInt 12345).toInt32.toInt) := by decide +kernel
theorem ci_36 : ((.ofNat 16, .ofNat 16) : am_I) = ((Int8.ofInt 16).toInt32.toInt, (Int8.ofInt 16).toInt32.toInt) := by decide +kernel
theorem ci_37 : ((.ofNat 32767, .ofNat 32767) : am_I) = ((Int16.ofInt 32767).toInt32.toInt, (Int16.ofInt 32767).toInt32.toInt) := by decide +kernel
theorem ci_38 : ((.ofNat 63, .ofNat 63) : am_I) = ((Int8.ofInt 63).toInt32.toInt, (Int8.ofInt 63).toInt32.toInt) := by decide +kernel
theorem ci_39 : ((.ofNat 40, .ofNat 40) : am_I) = ((Int8.ofInt 40).toInt32.toInt, (Int8.ofInt 40).toInt32.toInt) := by decide +kernel
theorem ci_40 : ((.negSucc 13, .negSucc 13) : am_I) = ((Int8.ofInt (-14)).toInt32.toInt, (Int8.ofInt (-14)).toInt32.toInt) := by decide +kernel
theorem ci_41 : ((.ofNat 20, .ofNat 20) : am_I) = ((Int8.ofInt 20).toInt32.toInt, (Int8.ofInt 20).toInt32.toInt) := by decide +kernel
theorem ci_42 : ((.negSucc 19, .negSucc 19) : am_I) = ((Int8.ofInt (-20)).toInt32.toInt, (Int8.ofInt (-20)).toInt32.toInt) := by decide +kernel
theorem ci_43 : ((.ofNat 44, .ofNat 44) : am_I) = ((Int8.ofInt 44).toInt32.toInt, (Int8.ofInt 44).toInt32.toInt) := by decide +kernel
theorem ci_44 : ((.ofNat 15, .ofNat 15) : am_I) = ((Int8.ofInt 15).toInt32.toInt, (Int8.ofInt 15).toInt32.toInt) := by decide +kernel
theorem ci_45 : ((.ofNat 21, .ofNat 21) : am_I) = ((Int8.ofInt 21).toInt32.toInt, (Int8.ofInt 21).toInt32.toInt) := by decide +kernel
theorem ci_46 : ((.ofNat 127, .ofNat 127) : am_I) = ((Int64.ofInt 127).toInt, (Int64.ofInt 127).toInt) := by decide +kernel
theorem ci_47 : ((.ofNat 97, .ofNat 97) : am_I) = ((Int64.ofInt 97).toInt, (Int64.ofInt 97).toInt) := by decide +kernel
theorem ci_48 : ((.ofNat 122, .ofNat 122) : am_I) = ((Int64.ofInt 122).toInt, (Int64.ofInt 122).toInt) := by decide +kernel
theorem ci_49 : ((.ofNat 48, .ofNat 48) : am_I) = ((Int64.ofInt 48).toInt, (Int64.ofInt 48).toInt) := by decide +kernel
theorem ci_50 : ((.ofNat 57, .ofNat 57) : am_I) = ((Int64.ofInt 57).toInt, (Int64.ofInt 57).toInt) := by decide +kernel
theorem ci_51 : ((.ofNat 116, .ofNat 116) : am_I) = ((Int8.ofInt 116).toInt32.toInt, (Int8.ofInt 116).toInt32.toInt) := by decide +kernel
theorem ci_52 : ((.ofNat 111, .ofNat 111) : am_I) = ((Int8.ofInt 111).toInt32.toInt, (Int8.ofInt 111).toInt32.toInt) := by decide +kernel
theorem ci_53 : ((.ofNat 119, .ofNat 119) : am_I) = ((Int8.ofInt 119).toInt32.toInt, (Int8.ofInt 119).toInt32.toInt) := by decide +kernel
theorem ci_54 : ((.ofNat 110, .ofNat 110) : am_I) = ((Int8.ofInt 110).toInt32.toInt, (Int8.ofInt 110).toInt32.toInt) := by decide +kernel
theorem ci_55 : ((.ofNat 112, .ofNat 112) : am_I) = ((Int8.ofInt 112).toInt32.toInt, (Int8.ofInt 112).toInt32.toInt) := by decide +kernel
theorem ci_56 : ((.ofNat 117, .ofNat 117) : am_I) = ((Int8.ofInt 117).toInt32.toInt, (Int8.ofInt 117).toInt32.toInt) := by decide +kernel
theorem ci_57 : ((.ofNat 108, .ofNat 108) : am_I) = ((Int8.ofInt 108).toInt32.toInt, (Int8.ofInt 108).toInt32.toInt) := by decide +kernel
theorem ci_58 : ((.ofNat 114, .ofNat 114) : am_I) = ((Int8.ofInt 114).toInt32.toInt, (Int8.ofInt 114).toInt32.toInt) := by decide +kernel
theorem ci_59 : ((.ofNat 101, .ofNat 101) : am_I) = ((Int8.ofInt 101).toInt32.toInt, (Int8.ofInt 101).toInt32.toInt) := by decide +kernel
theorem ci_60 : ((.ofNat 115, .ofNat 115) : am_I) = ((Int8.ofInt 115).toInt32.toInt, (Int8.ofInt 115).toInt32.toInt) := by decide +kernel
theorem ci_61 : ((.ofNat 105, .ofNat 105) : am_I) = ((Int8.ofInt 105).toInt32.toInt, (Int8.ofInt 105).toInt32.toInt) := by decide +kernel
theorem ci_62 : ((.ofNat 103, .ofNat 103) : am_I) = ((Int8.ofInt 103).toInt32.toInt, (Int8.ofInt 103).toInt32.toInt) := by decide +kernel
theorem ci_63 : ((.ofNat 25, .ofNat 25) : am_I) = ((Int8.ofInt 25).toInt32.toInt, (Int8.ofInt 25).toInt32.toInt) := by decide +kernel
theorem ci_64 : ((.ofNat 26, .ofNat 26) : am_I) = ((Int8.ofInt 26).toInt32.toInt, (Int8.ofInt 26).toInt32.toInt) := by decide +kernel
theorem ci_65 : ((.ofNat 4, .ofNat 4) : am_I) = ((Int64.ofInt 4).toInt, (Int64.ofInt 4).toInt) := by decide +kernel
theorem ci_66 : ((.ofNat 11, .ofNat 11) : am_I) = ((Int8.ofInt 11).toInt32.toInt, (Int8.ofInt 11).toInt32.toInt) := by decide +kernel
theorem ci_67 : ((.ofNat 3, .ofNat 3) : am_I) = ((Int64.ofInt 3).toInt, (Int64.ofInt 3).toInt) := by decide +kernel
theorem ci_68 : ((.ofNat 9, .ofNat 9) : am_I) = ((Int64.ofInt 9).toInt, (Int64.ofInt 9).toInt) := by decide +kernel
theorem ci_69 : ((.ofNat 60, .ofNat 60) : am_I) = ((Int64.ofInt 60).toInt, (Int64.ofInt 60).toInt) := by decide +kernel
theorem ci_70 : ((.ofNat 999, .ofNat 999) : am_I) = ((Int16.ofInt 999).toInt32.toInt, (Int16.ofInt 999).toInt32.toInt) := by decide +kernel
theorem ci_71 : ((.ofNat 12, .ofNat 12) : am_I) = ((Int64.ofInt 12).toInt, (Int64.ofInt 12).toInt) := by decide +kernel
theorem ci_72 : ((.ofNat 1000000, .ofNat 1000000) : am_I) = ((Int32.ofInt 1000000).toInt, (Int32.ofInt 1000000).toInt) := by decide +kernel
theorem ci_73 : ((.ofNat 13, .ofNat 13) : am_I) = ((Int64.ofInt 13).toInt, (Int64.ofInt 13).toInt) := by decide +kernel
theorem ci_74 : ((.ofNat 27, .ofNat 27) : am_I) = ((Int8.ofInt 27).toInt32.toInt, (Int8.ofInt 27).toInt32.toInt) := by decide +kernel
theorem ci_75 : ((.ofNat 28, .ofNat 28) : am_I) = ((Int8.ofInt 28).toInt32.toInt, (Int8.ofInt 28).toInt32.toInt) := by decide +kernel
theorem ci_76 : ((.ofNat 2, .ofNat 2) : am_I) = ((Int64.ofInt 2).toInt, (Int64.ofInt 2).toInt) := by decide +kernel
theorem ci_77 : ((.negSucc 10, .negSucc 10) : am_I) = ((Int8.ofInt (-11)).toInt32.toInt, (Int8.ofInt (-11)).toInt32.toInt) := by decide +kernel
theorem ci_78 : ((.negSucc 11, .negSucc 11) : am_I) = ((Int8.ofInt (-12)).toInt32.toInt, (Int8.ofInt (-12)).toInt32.toInt) := by decide +kernel
theorem ci_79 : ((.ofNat 20, .ofNat 20) : am_I) = ((Int64.ofInt 20).toInt, (Int64.ofInt 20).toInt) := by decide +kernel
noncomputable def bk_5_0 : vm_G := fun ba k => fq_lda 0 (fq_cst (.inl (.ofNat 3, .ofNat 3)) (fq_putf 4 0 .int (fq_lda 0 (fq_cst (.inl (.ofNat 3, .ofNat 3)) (fq_putf 4 1 .int (fq_lda 0 (fq_cst (.inl (.ofNat 0, .ofNat 0)) (fq_putf 4 2 .int (fq_lda 0 (fq_cst (.inl (.ofNat 0, .ofNat 0)) (fq_putf 4 3 .int (fq_lda 0 (fq_cst (.inl (.ofNat 0, .ofNat 0)) (fq_putf 4 4 .int (fq_lda 0 (fq_cst (.inl (.ofNat 0, .ofNat 0)) (fq_putf 4 5 .int (fq_lda 0 (fq_cst (.inl (.ofNat 0, .ofNat 0)) (fq_putf 4 6 .int (fq_lda 0 (fq_getf 4 10 (fq_cst (.inl (.negSucc 3, .negSucc 3)) (fq_call 6 2 none 0 0 ba (fq_cst (.inl (.ofNat 1, .ofNat 1)) (fq_sti 1 (k 46)))))))))))))))))))))))))))
theorem bo_5_0 : vm_bok m_5 0 27 bk_5_0 := (vm_bs 1 (fs_aload_n (i := 0) rfl) rfl (vm_bs 2 (fs_iconst rfl ci_0) rfl (vm_bs 5 (fs_putfield rfl rfl) rfl (vm_bs 6 (fs_aload_n (i := 0) rfl) rfl (vm_bs 7 (fs_iconst rfl ci_0) rfl (vm_bs 10 (fs_putfield rfl rfl) rfl (vm_bs 11 (fs_aload_n (i := 0) rfl) rfl (vm_bs 12 (fs_iconst rfl ci_1) rfl (vm_bs 15 (fs_putfield rfl rfl) rfl (vm_bs 16 (fs_aload_n (i := 0) rfl) rfl (vm_bs 17 (fs_iconst rfl ci_1) rfl (vm_bs 20 (fs_putfield rfl rfl) rfl (vm_bs 21 (fs_aload_n (i := 0) rfl) rfl (vm_bs 22 (fs_iconst rfl ci_1) rfl (vm_bs 25 (fs_putfield rfl rfl) rfl (vm_bs 26 (fs_aload_n (i := 0) rfl) rfl (vm_bs 27 (fs_iconst rfl ci_1) rfl (vm_bs 30 (fs_putfield rfl rfl) rfl (vm_bs 31 (fs_aload_n (i := 0) rfl) rfl (vm_bs 32 (fs_iconst rfl ci_1) rfl (vm_bs 35 (fs_putfield rfl rfl) rfl (vm_bs 36 (fs_aload_n (i := 0) rfl) rfl (vm_bs 39 (fs_getfield rfl) rfl (vm_bs 41 (fs_bipush rfl ci_2) rfl (vm_bs 44 (fs_ins rfl rfl rfl (Or.inl rfl) rfl rfl rfl) rfl (vm_bs 45 (fs_iconst rfl ci_3) rfl (vm_bs 46 (fs_istore_n (i := 1) rfl rfl) rfl vm_bf)))))))))))))))))))))))))))
noncomputable def bk_5_46 : vm_G := fun ba k => fq_ldi 1 (fq_cst (.inl (.ofNat 4, .ofNat 4)) (fq_ic fm_gt 66 51 k))
theorem bo_5_46 : vm_bok m_5 46 3 bk_5_46 := (vm_bs 47 (fs_iload_n (i := 1) rfl) rfl (vm_bs 48 (fs_iconst rfl ci_4) rfl (vm_be (fj_icmp rfl rfl))))
noncomputable def bk_5_51 : vm_G := fun ba k => fq_lda 0 (fq_getf 4 11 (fq_ldi 1 (fq_cst (.inl (.ofNat 5, .ofNat 5)) (fq_ldi 1 (fq_bi fm_sub (fq_iast (fq_iinc 1 (.ofNat 1, .ofNat 1) (fq_goto 46 k))))))))
theorem bo_5_51 : vm_bok m_5 51 9 bk_5_51 := (vm_bs 52 (fs_aload_n (i := 0) rfl) rfl (vm_bs 55 (fs_getfield rfl) rfl (vm_bs 56 (fs_iload_n (i := 1) rfl) rfl (vm_bs 57 (fs_iconst rfl ci_5) rfl (vm_bs 58 (fs_iload_n (i := 1) rfl) rfl (vm_bs 59 (fs_isub rfl) rfl (vm_bs 60 (fs_iastore rfl) rfl (vm_bs 63 (fs_iinc rfl ci_3 rfl) rfl (vm_be (fj_goto rfl))))))))))
noncomputable def bt_5 : vm_T := [[(0, (.inr (27, bk_5_0)))], [], [(46, (.inr (3, bk_5_46)))], [(51, (.inr (9, bk_5_51)))], [(66, (.inl fr_void))]]
theorem bq_5 : ∀ mm, pm_m 5 = some mm → vm_tok mm bt_5 := fun mm h => by
  cases h
  exact (ft_c (fl_c (fy_blk bo_5_0 rfl) fl_n) (ft_c fl_n (ft_c (fl_c (fy_blk bo_5_46 rfl) fl_n) (ft_c (fl_c (fy_blk bo_5_51 rfl) fl_n) (ft_c (fl_c (fr_void_ok rfl rfl) fl_n) ft_n)))))
noncomputable def bk_6_0 : vm_G := fun ba k => fq_cst (.inl (.ofNat 0, .ofNat 0)) (fq_sti 2 (fq_lda 0 (fq_slow m_6 (.arraylength, 0, 0, 0) 3 4 ba (fq_sti 3 (k 5)))))
theorem bo_6_0 : vm_bok m_6 0 5 bk_6_0 := (vm_bs 1 (fs_iconst rfl ci_1) rfl (vm_bs 2 (fs_istore_n (i := 2) rfl rfl) rfl (vm_bs 3 (fs_aload_n (i := 0) rfl) rfl (vm_bs 4 (fs_slow rfl) rfl (vm_bs 5 (fs_istore_n (i := 3) rfl rfl) rfl vm_bf)))))
noncomputable def bk_6_5 : vm_G := fun ba k => fq_ldi 2 (fq_ldi 3 (fq_ic fm_ge 20 10 k))
theorem bo_6_5 : vm_bok m_6 5 3 bk_6_5 := (vm_bs 6 (fs_iload_n (i := 2) rfl) rfl (vm_bs 7 (fs_iload_n (i := 3) rfl) rfl (vm_be (fj_icmp rfl rfl))))
noncomputable def bk_6_10 : vm_G := fun ba k => fq_lda 0 (fq_ldi 2 (fq_ldi 1 (fq_iast (fq_iinc 2 (.ofNat 1, .ofNat 1) (fq_goto 5 k)))))
theorem bo_6_10 : vm_bok m_6 10 6 bk_6_10 := (vm_bs 11 (fs_aload_n (i := 0) rfl) rfl (vm_bs 12 (fs_iload_n (i := 2) rfl) rfl (vm_bs 13 (fs_iload_n (i := 1) rfl) rfl (vm_bs 14 (fs_iastore rfl) rfl (vm_bs 17 (fs_iinc rfl ci_3 rfl) rfl (vm_be (fj_goto rfl)))))))
noncomputable def bt_6 : vm_T := [[(0, (.inr (5, bk_6_0))), (5, (.inr (3, bk_6_5))), (10, (.inr (6, bk_6_10)))], [(20, (.inl fr_void))]]
theorem bq_6 : ∀ mm, pm_m 6 = some mm → vm_tok mm bt_6 := fun mm h => by
  cases h
  exact (ft_c (fl_c (fy_blk bo_6_0 rfl) (fl_c (fy_blk bo_6_5 rfl) (fl_c (fy_blk bo_6_10 rfl) fl_n))) (ft_c (fl_c (fr_void_ok rfl rfl) fl_n) ft_n))
noncomputable def bk_10_0 : vm_G := fun ba k => fq_ldi 1 (fq_if fm_lt 10 4 k)
theorem bo_10_0 : vm_bok m_10 0 2 bk_10_0 := (vm_bs 1 (fs_iload_n (i := 1) rfl) rfl (vm_be (fj_if rfl rfl)))
noncomputable def bk_10_4 : vm_G := fun ba k => fq_ldi 1 (fq_cst (.inl (.ofNat 127, .ofNat 127)) (fq_ic fm_le 12 10 k))
theorem bo_10_4 : vm_bok m_10 4 3 bk_10_4 := (vm_bs 5 (fs_iload_n (i := 1) rfl) rfl (vm_bs 7 (fs_bipush rfl ci_6) rfl (vm_be (fj_icmp rfl rfl))))
noncomputable def bk_10_10 : vm_G := fun ba k => fq_cst (.inl (.negSucc 0, .negSucc 0)) (k 11)
theorem bo_10_10 : vm_bok m_10 10 1 bk_10_10 := (vm_bs 11 (fs_iconst rfl ci_7) rfl vm_bf)
noncomputable def bk_10_12 : vm_G := fun ba k => fq_lda 0 (fq_getf 6 0 (fq_ldi 1 (fq_call 11 2 (some 2) 0 0 ba (fq_if fm_eq 33 23 k))))
theorem bo_10_12 : vm_bok m_10 12 5 bk_10_12 := (vm_bs 13 (fs_aload_n (i := 0) rfl) rfl (vm_bs 16 (fs_getfield rfl) rfl (vm_bs 17 (fs_iload_n (i := 1) rfl) rfl (vm_bs 20 (fs_inv rfl (Or.inl ⟨rfl, rfl⟩) rfl rfl rfl) rfl (vm_be (fj_if rfl rfl))))))
noncomputable def bk_10_23 : vm_G := fun ba k => fq_lda 0 (fq_getf 6 0 (fq_getf 2 1 (fq_goto 35 k)))
theorem bo_10_23 : vm_bok m_10 23 4 bk_10_23 := (vm_bs 24 (fs_aload_n (i := 0) rfl) rfl (vm_bs 27 (fs_getfield rfl) rfl (vm_bs 30 (fs_getfield rfl) rfl (vm_be (fj_goto rfl)))))
noncomputable def bk_10_33 : vm_G := fun ba k => fq_cst (.inl (.negSucc 2, .negSucc 2)) (k 35)
theorem bo_10_33 : vm_bok m_10 33 1 bk_10_33 := (vm_bs 35 (fs_bipush rfl ci_8) rfl vm_bf)
noncomputable def bt_10 : vm_T := [[(0, (.inr (2, bk_10_0))), (4, (.inr (3, bk_10_4))), (10, (.inr (1, bk_10_10))), (11, (.inl (fr_int .int))), (12, (.inr (5, bk_10_12)))], [(23, (.inr (4, bk_10_23)))], [(33, (.inr (1, bk_10_33))), (35, (.inl (fr_int .int)))]]
theorem bq_10 : ∀ mm, pm_m 10 = some mm → vm_tok mm bt_10 := fun mm h => by
  cases h
  exact (ft_c (fl_c (fy_blk bo_10_0 rfl) (fl_c (fy_blk bo_10_4 rfl) (fl_c (fy_blk bo_10_10 rfl) (fl_c (fr_int_ok rfl rfl) (fl_c (fy_blk bo_10_12 rfl) fl_n))))) (ft_c (fl_c (fy_blk bo_10_23 rfl) fl_n) (ft_c (fl_c (fy_blk bo_10_33 rfl) (fl_c (fr_int_ok rfl rfl) fl_n)) ft_n)))
noncomputable def bk_11_0 : vm_G := fun ba k => fq_lda 0 (fq_getf 2 1 (fq_lda 0 (fq_getf 2 0 (fq_slow m_11 (.arraylength, 0, 0, 0) 8 9 ba (fq_ic fm_lt 14 12 k)))))
theorem bo_11_0 : vm_bok m_11 0 6 bk_11_0 := (vm_bs 1 (fs_aload_n (i := 0) rfl) rfl (vm_bs 4 (fs_getfield rfl) rfl (vm_bs 5 (fs_aload_n (i := 0) rfl) rfl (vm_bs 8 (fs_getfield rfl) rfl (vm_bs 9 (fs_slow rfl) rfl (vm_be (fj_icmp rfl rfl)))))))
noncomputable def bk_11_12 : vm_G := fun ba k => fq_cst (.inl (.ofNat 0, .ofNat 0)) (k 13)
theorem bo_11_12 : vm_bok m_11 12 1 bk_11_12 := (vm_bs 13 (fs_iconst rfl ci_1) rfl vm_bf)
noncomputable def bk_11_14 : vm_G := fun ba k => fq_lda 0 (fq_getf 2 0 (fq_lda 0 (fq_getf 2 1 (fq_ldi 1 (fq_slow m_11 (.i2b, 0, 0, 0) 23 24 ba (fq_slow m_11 (.bastore, 0, 0, 0) 24 25 ba (fq_lda 0 (fq_dup (fq_getf 2 1 (fq_cst (.inl (.ofNat 1, .ofNat 1)) (fq_bi fm_add (fq_putf 2 1 .int (fq_cst (.inl (.ofNat 1, .ofNat 1)) (k 36))))))))))))))
theorem bo_11_14 : vm_bok m_11 14 14 bk_11_14 := (vm_bs 15 (fs_aload_n (i := 0) rfl) rfl (vm_bs 18 (fs_getfield rfl) rfl (vm_bs 19 (fs_aload_n (i := 0) rfl) rfl (vm_bs 22 (fs_getfield rfl) rfl (vm_bs 23 (fs_iload_n (i := 1) rfl) rfl (vm_bs 24 (fs_slow rfl) rfl (vm_bs 25 (fs_slow rfl) rfl (vm_bs 26 (fs_aload_n (i := 0) rfl) rfl (vm_bs 27 (fs_dup rfl) rfl (vm_bs 30 (fs_getfield rfl) rfl (vm_bs 31 (fs_iconst rfl ci_3) rfl (vm_bs 32 (fs_iadd rfl) rfl (vm_bs 35 (fs_putfield rfl rfl) rfl (vm_bs 36 (fs_iconst rfl ci_3) rfl vm_bf))))))))))))))
noncomputable def bt_11 : vm_T := [[(0, (.inr (6, bk_11_0))), (12, (.inr (1, bk_11_12))), (13, (.inl (fr_int .boolean))), (14, (.inr (14, bk_11_14)))], [], [(36, (.inl (fr_int .boolean)))]]
theorem bq_11 : ∀ mm, pm_m 11 = some mm → vm_tok mm bt_11 := fun mm h => by
  cases h
  exact (ft_c (fl_c (fy_blk bo_11_0 rfl) (fl_c (fy_blk bo_11_12 rfl) (fl_c (fr_int_ok rfl rfl) (fl_c (fy_blk bo_11_14 rfl) fl_n)))) (ft_c fl_n (ft_c (fl_c (fr_int_ok rfl rfl) fl_n) ft_n)))
noncomputable def bk_12_0 : vm_G := fun ba k => fq_lda 0 (fq_getf 6 0 (fq_getf 2 1 (fq_sti 2 (fq_ldi 1 (fq_if fm_lt 17 12 k)))))
theorem bo_12_0 : vm_bok m_12 0 6 bk_12_0 := (vm_bs 1 (fs_aload_n (i := 0) rfl) rfl (vm_bs 4 (fs_getfield rfl) rfl (vm_bs 7 (fs_getfield rfl) rfl (vm_bs 8 (fs_istore_n (i := 2) rfl rfl) rfl (vm_bs 9 (fs_iload_n (i := 1) rfl) rfl (vm_be (fj_if rfl rfl)))))))
noncomputable def bk_12_12 : vm_G := fun ba k => fq_ldi 1 (fq_ldi 2 (fq_ic fm_le 19 17 k))
theorem bo_12_12 : vm_bok m_12 12 3 bk_12_12 := (vm_bs 13 (fs_iload_n (i := 1) rfl) rfl (vm_bs 14 (fs_iload_n (i := 2) rfl) rfl (vm_be (fj_icmp rfl rfl))))
noncomputable def bk_12_17 : vm_G := fun ba k => fq_cst (.inl (.negSucc 0, .negSucc 0)) (k 18)
theorem bo_12_17 : vm_bok m_12 17 1 bk_12_17 := (vm_bs 18 (fs_iconst rfl ci_7) rfl vm_bf)
noncomputable def bk_12_19 : vm_G := fun ba k => fq_lda 0 (fq_getf 6 0 (fq_ldi 1 (fq_putf 2 1 .int (fq_ldi 2 (k 28)))))
theorem bo_12_19 : vm_bok m_12 19 5 bk_12_19 := (vm_bs 20 (fs_aload_n (i := 0) rfl) rfl (vm_bs 23 (fs_getfield rfl) rfl (vm_bs 24 (fs_iload_n (i := 1) rfl) rfl (vm_bs 27 (fs_putfield rfl rfl) rfl (vm_bs 28 (fs_iload_n (i := 2) rfl) rfl vm_bf)))))
noncomputable def bt_12 : vm_T := [[(0, (.inr (6, bk_12_0))), (12, (.inr (3, bk_12_12)))], [(17, (.inr (1, bk_12_17))), (18, (.inl (fr_int .int))), (19, (.inr (5, bk_12_19))), (28, (.inl (fr_int .int)))]]
theorem bq_12 : ∀ mm, pm_m 12 = some mm → vm_tok mm bt_12 := fun mm h => by
  cases h
  exact (ft_c (fl_c (fy_blk bo_12_0 rfl) (fl_c (fy_blk bo_12_12 rfl) fl_n)) (ft_c (fl_c (fy_blk bo_12_17 rfl) (fl_c (fr_int_ok rfl rfl) (fl_c (fy_blk bo_12_19 rfl) (fl_c (fr_int_ok rfl rfl) fl_n)))) ft_n))
noncomputable def bk_13_0 : vm_G := fun ba k => fq_lda 0 (fq_getf 6 1 (fq_call 14 1 (some 3) 0 0 ba (fq_lda 0 (fq_getf 6 0 (fq_cst (.inl (.ofNat 0, .ofNat 0)) (fq_putf 2 1 .int (fq_lda 0 (fq_getf 6 1 (fq_getf 3 2 (fq_if fm_eq 36 25 k))))))))))
theorem bo_13_0 : vm_bok m_13 0 11 bk_13_0 := (vm_bs 1 (fs_aload_n (i := 0) rfl) rfl (vm_bs 4 (fs_getfield rfl) rfl (vm_bs 7 (fs_inv rfl (Or.inl ⟨rfl, rfl⟩) rfl rfl rfl) rfl (vm_bs 8 (fs_aload_n (i := 0) rfl) rfl (vm_bs 11 (fs_getfield rfl) rfl (vm_bs 12 (fs_iconst rfl ci_1) rfl (vm_bs 15 (fs_putfield rfl rfl) rfl (vm_bs 16 (fs_aload_n (i := 0) rfl) rfl (vm_bs 19 (fs_getfield rfl) rfl (vm_bs 22 (fs_getfield rfl) rfl (vm_be (fj_if rfl rfl))))))))))))
noncomputable def bk_13_25 : vm_G := fun ba k => fq_cst (.inl (.negSucc 9, .negSucc 9)) (fq_lda 0 (fq_getf 6 1 (fq_getf 3 3 (fq_bi fm_sub (k 35)))))
theorem bo_13_25 : vm_bok m_13 25 5 bk_13_25 := (vm_bs 27 (fs_bipush rfl ci_9) rfl (vm_bs 28 (fs_aload_n (i := 0) rfl) rfl (vm_bs 31 (fs_getfield rfl) rfl (vm_bs 34 (fs_getfield rfl) rfl (vm_bs 35 (fs_isub rfl) rfl vm_bf)))))
noncomputable def bk_13_36 : vm_G := fun ba k => fq_lda 0 (fq_getf 6 2 (fq_lda 0 (fq_getf 6 1 (fq_getf 3 0 (fq_call 41 2 (some 4) 0 0 ba (fq_lda 0 (fq_cst (.inl (.ofNat 0, .ofNat 0)) (fq_putf 6 7 .int (fq_lda 0 (fq_getf 6 1 (fq_getf 3 1 (k 62))))))))))))
theorem bo_13_36 : vm_bok m_13 36 12 bk_13_36 := (vm_bs 37 (fs_aload_n (i := 0) rfl) rfl (vm_bs 40 (fs_getfield rfl) rfl (vm_bs 41 (fs_aload_n (i := 0) rfl) rfl (vm_bs 44 (fs_getfield rfl) rfl (vm_bs 47 (fs_getfield rfl) rfl (vm_bs 50 (fs_inv rfl (Or.inl ⟨rfl, rfl⟩) rfl rfl rfl) rfl (vm_bs 51 (fs_aload_n (i := 0) rfl) rfl (vm_bs 52 (fs_iconst rfl ci_1) rfl (vm_bs 55 (fs_putfield rfl rfl) rfl (vm_bs 56 (fs_aload_n (i := 0) rfl) rfl (vm_bs 59 (fs_getfield rfl) rfl (vm_bs 62 (fs_getfield rfl) rfl vm_bf))))))))))))
noncomputable def bt_13 : vm_T := [[(0, (.inr (11, bk_13_0)))], [(25, (.inr (5, bk_13_25)))], [(35, (.inl (fr_int .int))), (36, (.inr (12, bk_13_36)))], [(62, (.inl (fr_int .int)))]]
theorem bq_13 : ∀ mm, pm_m 13 = some mm → vm_tok mm bt_13 := fun mm h => by
  cases h
  exact (ft_c (fl_c (fy_blk bo_13_0 rfl) fl_n) (ft_c (fl_c (fy_blk bo_13_25 rfl) fl_n) (ft_c (fl_c (fr_int_ok rfl rfl) (fl_c (fy_blk bo_13_36 rfl) fl_n)) (ft_c (fl_c (fr_int_ok rfl rfl) fl_n) ft_n))))
noncomputable def bk_14_0 : vm_G := fun ba k => fq_lda 0 (fq_getf 3 0 (fq_call 5 1 (some 4) 0 0 ba (fq_lda 0 (fq_cst (.inl (.ofNat 0, .ofNat 0)) (fq_putf 3 1 .int (fq_lda 0 (fq_cst (.inl (.ofNat 0, .ofNat 0)) (fq_putf 3 2 .int (fq_lda 0 (fq_cst (.inl (.ofNat 0, .ofNat 0)) (fq_putf 3 3 .int (fq_lda 0 (fq_cst (.inl (.ofNat 0, .ofNat 0)) (fq_putf 3 5 .boolean (fq_lda 0 (fq_cst (.inl (.ofNat 0, .ofNat 0)) (fq_putf 3 6 .boolean (fq_lda 0 (fq_cst (.inl (.ofNat 0, .ofNat 0)) (fq_putf 3 7 .boolean (fq_lda 0 (fq_getf 3 4 (fq_call 15 1 (some 2) 0 0 ba (fq_lda 0 (fq_getf 3 4 (fq_call 16 1 (some 2) 0 0 ba (k 51)))))))))))))))))))))))))))
theorem bo_14_0 : vm_bok m_14 0 27 bk_14_0 := (vm_bs 1 (fs_aload_n (i := 0) rfl) rfl (vm_bs 4 (fs_getfield rfl) rfl (vm_bs 7 (fs_inv rfl (Or.inl ⟨rfl, rfl⟩) rfl rfl rfl) rfl (vm_bs 8 (fs_aload_n (i := 0) rfl) rfl (vm_bs 9 (fs_iconst rfl ci_1) rfl (vm_bs 12 (fs_putfield rfl rfl) rfl (vm_bs 13 (fs_aload_n (i := 0) rfl) rfl (vm_bs 14 (fs_iconst rfl ci_1) rfl (vm_bs 17 (fs_putfield rfl rfl) rfl (vm_bs 18 (fs_aload_n (i := 0) rfl) rfl (vm_bs 19 (fs_iconst rfl ci_1) rfl (vm_bs 22 (fs_putfield rfl rfl) rfl (vm_bs 23 (fs_aload_n (i := 0) rfl) rfl (vm_bs 24 (fs_iconst rfl ci_1) rfl (vm_bs 27 (fs_putfield rfl rfl) rfl (vm_bs 28 (fs_aload_n (i := 0) rfl) rfl (vm_bs 29 (fs_iconst rfl ci_1) rfl (vm_bs 32 (fs_putfield rfl rfl) rfl (vm_bs 33 (fs_aload_n (i := 0) rfl) rfl (vm_bs 34 (fs_iconst rfl ci_1) rfl (vm_bs 37 (fs_putfield rfl rfl) rfl (vm_bs 38 (fs_aload_n (i := 0) rfl) rfl (vm_bs 41 (fs_getfield rfl) rfl (vm_bs 44 (fs_inv rfl (Or.inl ⟨rfl, rfl⟩) rfl rfl rfl) rfl (vm_bs 45 (fs_aload_n (i := 0) rfl) rfl (vm_bs 48 (fs_getfield rfl) rfl (vm_bs 51 (fs_inv rfl (Or.inl ⟨rfl, rfl⟩) rfl rfl rfl) rfl vm_bf)))))))))))))))))))))))))))
noncomputable def bk_14_51 : vm_G := fun ba k => fq_lda 0 (fq_getf 3 2 (fq_if fm_ne 107 58 k))
theorem bo_14_51 : vm_bok m_14 51 3 bk_14_51 := (vm_bs 52 (fs_aload_n (i := 0) rfl) rfl (vm_bs 55 (fs_getfield rfl) rfl (vm_be (fj_if rfl rfl))))
noncomputable def bk_14_58 : vm_G := fun ba k => fq_lda 0 (fq_getf 3 4 (fq_getf 2 2 (fq_cst (.inl (.ofNat 4, .ofNat 4)) (fq_ic fm_eq 107 69 k))))
theorem bo_14_58 : vm_bok m_14 58 5 bk_14_58 := (vm_bs 59 (fs_aload_n (i := 0) rfl) rfl (vm_bs 62 (fs_getfield rfl) rfl (vm_bs 65 (fs_getfield rfl) rfl (vm_bs 66 (fs_iconst rfl ci_4) rfl (vm_be (fj_icmp rfl rfl))))))
noncomputable def bk_14_69 : vm_G := fun ba k => fq_lda 0 (fq_getf 3 1 (fq_cst (.inl (.ofNat 160, .ofNat 160)) (fq_ic fm_gt 107 79 k)))
theorem bo_14_69 : vm_bok m_14 69 4 bk_14_69 := (vm_bs 70 (fs_aload_n (i := 0) rfl) rfl (vm_bs 73 (fs_getfield rfl) rfl (vm_bs 76 (fs_sipush rfl ci_10) rfl (vm_be (fj_icmp rfl rfl)))))
noncomputable def bk_14_79 : vm_G := fun ba k => fq_lda 0 (fq_call 19 1 (some 3) 0 0 ba (k 83))
theorem bo_14_79 : vm_bok m_14 79 2 bk_14_79 := (vm_bs 80 (fs_aload_n (i := 0) rfl) rfl (vm_bs 83 (fs_inv rfl (Or.inl ⟨rfl, rfl⟩) rfl rfl rfl) rfl vm_bf))
noncomputable def bk_14_83 : vm_G := fun ba k => fq_lda 0 (fq_call 36 1 (some 3) 0 0 ba (fq_lda 0 (fq_dup (fq_getf 3 1 (fq_cst (.inl (.ofNat 1, .ofNat 1)) (fq_bi fm_add (fq_putf 3 1 .int (k 97))))))))
theorem bo_14_83 : vm_bok m_14 83 8 bk_14_83 := (vm_bs 84 (fs_aload_n (i := 0) rfl) rfl (vm_bs 87 (fs_inv rfl (Or.inl ⟨rfl, rfl⟩) rfl rfl rfl) rfl (vm_bs 88 (fs_aload_n (i := 0) rfl) rfl (vm_bs 89 (fs_dup rfl) rfl (vm_bs 92 (fs_getfield rfl) rfl (vm_bs 93 (fs_iconst rfl ci_3) rfl (vm_bs 94 (fs_iadd rfl) rfl (vm_bs 97 (fs_putfield rfl rfl) rfl vm_bf))))))))
noncomputable def bk_14_97 : vm_G := fun ba k => fq_lda 0 (fq_getf 3 4 (fq_call 16 1 (some 2) 0 0 ba (fq_goto 51 k)))
theorem bo_14_97 : vm_bok m_14 97 4 bk_14_97 := (vm_bs 98 (fs_aload_n (i := 0) rfl) rfl (vm_bs 101 (fs_getfield rfl) rfl (vm_bs 104 (fs_inv rfl (Or.inl ⟨rfl, rfl⟩) rfl rfl rfl) rfl (vm_be (fj_goto rfl)))))
noncomputable def bk_14_107 : vm_G := fun ba k => fq_lda 0 (fq_getf 3 2 (fq_if fm_ne 134 114 k))
theorem bo_14_107 : vm_bok m_14 107 3 bk_14_107 := (vm_bs 108 (fs_aload_n (i := 0) rfl) rfl (vm_bs 111 (fs_getfield rfl) rfl (vm_be (fj_if rfl rfl))))
noncomputable def bk_14_114 : vm_G := fun ba k => fq_lda 0 (fq_call 37 1 (some 3) 0 0 ba (fq_if fm_eq 134 121 k))
theorem bo_14_114 : vm_bok m_14 114 3 bk_14_114 := (vm_bs 115 (fs_aload_n (i := 0) rfl) rfl (vm_bs 118 (fs_inv rfl (Or.inl ⟨rfl, rfl⟩) rfl rfl rfl) rfl (vm_be (fj_if rfl rfl))))
noncomputable def bk_14_121 : vm_G := fun ba k => fq_lda 0 (fq_cst (.inl (.ofNat 6, .ofNat 6)) (fq_lda 0 (fq_getf 3 4 (fq_getf 2 1 (fq_call 20 3 (some 3) 0 0 ba (k 134))))))
theorem bo_14_121 : vm_bok m_14 121 6 bk_14_121 := (vm_bs 122 (fs_aload_n (i := 0) rfl) rfl (vm_bs 124 (fs_bipush rfl ci_11) rfl (vm_bs 125 (fs_aload_n (i := 0) rfl) rfl (vm_bs 128 (fs_getfield rfl) rfl (vm_bs 131 (fs_getfield rfl) rfl (vm_bs 134 (fs_inv rfl (Or.inl ⟨rfl, rfl⟩) rfl rfl rfl) rfl vm_bf))))))
noncomputable def bt_14 : vm_T := [[(0, (.inr (27, bk_14_0)))], [], [], [(51, (.inr (3, bk_14_51))), (58, (.inr (5, bk_14_58)))], [(69, (.inr (4, bk_14_69))), (79, (.inr (2, bk_14_79)))], [(83, (.inr (8, bk_14_83)))], [(97, (.inr (4, bk_14_97))), (107, (.inr (3, bk_14_107)))], [(114, (.inr (3, bk_14_114))), (121, (.inr (6, bk_14_121)))], [(134, (.inl fr_void))]]
theorem bq_14 : ∀ mm, pm_m 14 = some mm → vm_tok mm bt_14 := fun mm h => by
  cases h
  exact (ft_c (fl_c (fy_blk bo_14_0 rfl) fl_n) (ft_c fl_n (ft_c fl_n (ft_c (fl_c (fy_blk bo_14_51 rfl) (fl_c (fy_blk bo_14_58 rfl) fl_n)) (ft_c (fl_c (fy_blk bo_14_69 rfl) (fl_c (fy_blk bo_14_79 rfl) fl_n)) (ft_c (fl_c (fy_blk bo_14_83 rfl) fl_n) (ft_c (fl_c (fy_blk bo_14_97 rfl) (fl_c (fy_blk bo_14_107 rfl) fl_n)) (ft_c (fl_c (fy_blk bo_14_114 rfl) (fl_c (fy_blk bo_14_121 rfl) fl_n)) (ft_c (fl_c (fr_void_ok rfl rfl) fl_n) ft_n)))))))))
noncomputable def bk_15_0 : vm_G := fun ba k => fq_lda 0 (fq_cst (.inl (.ofNat 0, .ofNat 0)) (fq_putf 2 5 .int (k 5)))
theorem bo_15_0 : vm_bok m_15 0 3 bk_15_0 := (vm_bs 1 (fs_aload_n (i := 0) rfl) rfl (vm_bs 2 (fs_iconst rfl ci_1) rfl (vm_bs 5 (fs_putfield rfl rfl) rfl vm_bf)))
noncomputable def bt_15 : vm_T := [[(0, (.inr (3, bk_15_0))), (5, (.inl fr_void))]]
theorem bq_15 : ∀ mm, pm_m 15 = some mm → vm_tok mm bt_15 := fun mm h => by
  cases h
  exact (ft_c (fl_c (fy_blk bo_15_0 rfl) (fl_c (fr_void_ok rfl rfl) fl_n)) ft_n)
noncomputable def bk_16_0 : vm_G := fun ba k => fq_lda 0 (fq_getf 2 5 (fq_lda 0 (fq_getf 2 1 (fq_ic fm_ge 38 11 k))))
theorem bo_16_0 : vm_bok m_16 0 5 bk_16_0 := (vm_bs 1 (fs_aload_n (i := 0) rfl) rfl (vm_bs 4 (fs_getfield rfl) rfl (vm_bs 5 (fs_aload_n (i := 0) rfl) rfl (vm_bs 8 (fs_getfield rfl) rfl (vm_be (fj_icmp rfl rfl))))))
noncomputable def bk_16_11 : vm_G := fun ba k => fq_lda 0 (fq_getf 2 0 (fq_lda 0 (fq_getf 2 5 (fq_slow m_16 (.baload, 0, 0, 0) 19 20 ba (fq_cst (.inl (.ofNat 32, .ofNat 32)) (fq_ic fm_ne 38 25 k))))))
theorem bo_16_11 : vm_bok m_16 11 7 bk_16_11 := (vm_bs 12 (fs_aload_n (i := 0) rfl) rfl (vm_bs 15 (fs_getfield rfl) rfl (vm_bs 16 (fs_aload_n (i := 0) rfl) rfl (vm_bs 19 (fs_getfield rfl) rfl (vm_bs 20 (fs_slow rfl) rfl (vm_bs 22 (fs_bipush rfl ci_12) rfl (vm_be (fj_icmp rfl rfl))))))))
noncomputable def bk_16_25 : vm_G := fun ba k => fq_lda 0 (fq_dup (fq_getf 2 5 (fq_cst (.inl (.ofNat 1, .ofNat 1)) (fq_bi fm_add (fq_putf 2 5 .int (fq_goto 0 k))))))
theorem bo_16_25 : vm_bok m_16 25 7 bk_16_25 := (vm_bs 26 (fs_aload_n (i := 0) rfl) rfl (vm_bs 27 (fs_dup rfl) rfl (vm_bs 30 (fs_getfield rfl) rfl (vm_bs 31 (fs_iconst rfl ci_3) rfl (vm_bs 32 (fs_iadd rfl) rfl (vm_bs 35 (fs_putfield rfl rfl) rfl (vm_be (fj_goto rfl))))))))
noncomputable def bk_16_38 : vm_G := fun ba k => fq_lda 0 (fq_lda 0 (fq_getf 2 5 (fq_putf 2 3 .int (fq_lda 0 (fq_cst (.inl (.ofNat 4, .ofNat 4)) (fq_putf 2 2 .int (fq_lda 0 (fq_getf 2 5 (fq_lda 0 (fq_getf 2 1 (fq_ic fm_ge 88 62 k)))))))))))
theorem bo_16_38 : vm_bok m_16 38 12 bk_16_38 := (vm_bs 39 (fs_aload_n (i := 0) rfl) rfl (vm_bs 40 (fs_aload_n (i := 0) rfl) rfl (vm_bs 43 (fs_getfield rfl) rfl (vm_bs 46 (fs_putfield rfl rfl) rfl (vm_bs 47 (fs_aload_n (i := 0) rfl) rfl (vm_bs 48 (fs_iconst rfl ci_4) rfl (vm_bs 51 (fs_putfield rfl rfl) rfl (vm_bs 52 (fs_aload_n (i := 0) rfl) rfl (vm_bs 55 (fs_getfield rfl) rfl (vm_bs 56 (fs_aload_n (i := 0) rfl) rfl (vm_bs 59 (fs_getfield rfl) rfl (vm_be (fj_icmp rfl rfl)))))))))))))
noncomputable def bk_16_62 : vm_G := fun ba k => fq_lda 0 (fq_lda 0 (fq_getf 2 0 (fq_lda 0 (fq_getf 2 5 (fq_slow m_16 (.baload, 0, 0, 0) 71 72 ba (fq_call 17 1 none 0 0 ba (fq_putf 2 2 .int (fq_lda 0 (fq_dup (fq_getf 2 5 (fq_cst (.inl (.ofNat 1, .ofNat 1)) (fq_bi fm_add (fq_putf 2 5 .int (k 88))))))))))))))
theorem bo_16_62 : vm_bok m_16 62 14 bk_16_62 := (vm_bs 63 (fs_aload_n (i := 0) rfl) rfl (vm_bs 64 (fs_aload_n (i := 0) rfl) rfl (vm_bs 67 (fs_getfield rfl) rfl (vm_bs 68 (fs_aload_n (i := 0) rfl) rfl (vm_bs 71 (fs_getfield rfl) rfl (vm_bs 72 (fs_slow rfl) rfl (vm_bs 75 (fs_ins rfl rfl rfl (Or.inl rfl) rfl rfl rfl) rfl (vm_bs 78 (fs_putfield rfl rfl) rfl (vm_bs 79 (fs_aload_n (i := 0) rfl) rfl (vm_bs 80 (fs_dup rfl) rfl (vm_bs 83 (fs_getfield rfl) rfl (vm_bs 84 (fs_iconst rfl ci_3) rfl (vm_bs 85 (fs_iadd rfl) rfl (vm_bs 88 (fs_putfield rfl rfl) rfl vm_bf))))))))))))))
noncomputable def bk_16_88 : vm_G := fun ba k => fq_lda 0 (fq_getf 2 5 (fq_lda 0 (fq_getf 2 1 (fq_ic fm_ge 147 99 k))))
theorem bo_16_88 : vm_bok m_16 88 5 bk_16_88 := (vm_bs 89 (fs_aload_n (i := 0) rfl) rfl (vm_bs 92 (fs_getfield rfl) rfl (vm_bs 93 (fs_aload_n (i := 0) rfl) rfl (vm_bs 96 (fs_getfield rfl) rfl (vm_be (fj_icmp rfl rfl))))))
noncomputable def bk_16_99 : vm_G := fun ba k => fq_lda 0 (fq_getf 2 2 (fq_cst (.inl (.ofNat 1, .ofNat 1)) (fq_ic fm_eq 115 107 k)))
theorem bo_16_99 : vm_bok m_16 99 4 bk_16_99 := (vm_bs 100 (fs_aload_n (i := 0) rfl) rfl (vm_bs 103 (fs_getfield rfl) rfl (vm_bs 104 (fs_iconst rfl ci_3) rfl (vm_be (fj_icmp rfl rfl)))))
noncomputable def bk_16_107 : vm_G := fun ba k => fq_lda 0 (fq_getf 2 2 (fq_cst (.inl (.ofNat 2, .ofNat 2)) (fq_ic fm_ne 147 115 k)))
theorem bo_16_107 : vm_bok m_16 107 4 bk_16_107 := (vm_bs 108 (fs_aload_n (i := 0) rfl) rfl (vm_bs 111 (fs_getfield rfl) rfl (vm_bs 112 (fs_iconst rfl ci_13) rfl (vm_be (fj_icmp rfl rfl)))))
noncomputable def bk_16_115 : vm_G := fun ba k => fq_lda 0 (fq_getf 2 0 (fq_lda 0 (fq_getf 2 5 (fq_slow m_16 (.baload, 0, 0, 0) 123 124 ba (fq_call 17 1 none 0 0 ba (fq_lda 0 (fq_getf 2 2 (fq_ic fm_ne 147 134 k))))))))
theorem bo_16_115 : vm_bok m_16 115 9 bk_16_115 := (vm_bs 116 (fs_aload_n (i := 0) rfl) rfl (vm_bs 119 (fs_getfield rfl) rfl (vm_bs 120 (fs_aload_n (i := 0) rfl) rfl (vm_bs 123 (fs_getfield rfl) rfl (vm_bs 124 (fs_slow rfl) rfl (vm_bs 127 (fs_ins rfl rfl rfl (Or.inl rfl) rfl rfl rfl) rfl (vm_bs 128 (fs_aload_n (i := 0) rfl) rfl (vm_bs 131 (fs_getfield rfl) rfl (vm_be (fj_icmp rfl rfl))))))))))
noncomputable def bk_16_134 : vm_G := fun ba k => fq_lda 0 (fq_dup (fq_getf 2 5 (fq_cst (.inl (.ofNat 1, .ofNat 1)) (fq_bi fm_add (fq_putf 2 5 .int (fq_goto 88 k))))))
theorem bo_16_134 : vm_bok m_16 134 7 bk_16_134 := (vm_bs 135 (fs_aload_n (i := 0) rfl) rfl (vm_bs 136 (fs_dup rfl) rfl (vm_bs 139 (fs_getfield rfl) rfl (vm_bs 140 (fs_iconst rfl ci_3) rfl (vm_bs 141 (fs_iadd rfl) rfl (vm_bs 144 (fs_putfield rfl rfl) rfl (vm_be (fj_goto rfl))))))))
noncomputable def bk_16_147 : vm_G := fun ba k => fq_lda 0 (fq_getf 2 2 (fq_cst (.inl (.ofNat 2, .ofNat 2)) (fq_ic fm_ne 159 155 k)))
theorem bo_16_147 : vm_bok m_16 147 4 bk_16_147 := (vm_bs 148 (fs_aload_n (i := 0) rfl) rfl (vm_bs 151 (fs_getfield rfl) rfl (vm_bs 152 (fs_iconst rfl ci_13) rfl (vm_be (fj_icmp rfl rfl)))))
noncomputable def bk_16_155 : vm_G := fun ba k => fq_lda 0 (fq_call 18 1 (some 2) 0 0 ba (k 159))
theorem bo_16_155 : vm_bok m_16 155 2 bk_16_155 := (vm_bs 156 (fs_aload_n (i := 0) rfl) rfl (vm_bs 159 (fs_inv rfl (Or.inl ⟨rfl, rfl⟩) rfl rfl rfl) rfl vm_bf))
noncomputable def bt_16 : vm_T := [[(0, (.inr (5, bk_16_0))), (11, (.inr (7, bk_16_11)))], [(25, (.inr (7, bk_16_25)))], [(38, (.inr (12, bk_16_38)))], [(62, (.inr (14, bk_16_62)))], [], [(88, (.inr (5, bk_16_88)))], [(99, (.inr (4, bk_16_99))), (107, (.inr (4, bk_16_107)))], [(115, (.inr (9, bk_16_115)))], [(134, (.inr (7, bk_16_134)))], [(147, (.inr (4, bk_16_147))), (155, (.inr (2, bk_16_155))), (159, (.inl fr_void))]]
theorem bq_16 : ∀ mm, pm_m 16 = some mm → vm_tok mm bt_16 := fun mm h => by
  cases h
  exact (ft_c (fl_c (fy_blk bo_16_0 rfl) (fl_c (fy_blk bo_16_11 rfl) fl_n)) (ft_c (fl_c (fy_blk bo_16_25 rfl) fl_n) (ft_c (fl_c (fy_blk bo_16_38 rfl) fl_n) (ft_c (fl_c (fy_blk bo_16_62 rfl) fl_n) (ft_c fl_n (ft_c (fl_c (fy_blk bo_16_88 rfl) fl_n) (ft_c (fl_c (fy_blk bo_16_99 rfl) (fl_c (fy_blk bo_16_107 rfl) fl_n)) (ft_c (fl_c (fy_blk bo_16_115 rfl) fl_n) (ft_c (fl_c (fy_blk bo_16_134 rfl) fl_n) (ft_c (fl_c (fy_blk bo_16_147 rfl) (fl_c (fy_blk bo_16_155 rfl) (fl_c (fr_void_ok rfl rfl) fl_n))) ft_n))))))))))
noncomputable def bk_17_0 : vm_G := fun ba k => fq_ldi 0 (fq_cst (.inl (.ofNat 97, .ofNat 97)) (fq_ic fm_lt 14 6 k))
theorem bo_17_0 : vm_bok m_17 0 3 bk_17_0 := (vm_bs 1 (fs_iload_n (i := 0) rfl) rfl (vm_bs 3 (fs_bipush rfl ci_14) rfl (vm_be (fj_icmp rfl rfl))))
noncomputable def bk_17_6 : vm_G := fun ba k => fq_ldi 0 (fq_cst (.inl (.ofNat 122, .ofNat 122)) (fq_ic fm_gt 14 12 k))
theorem bo_17_6 : vm_bok m_17 6 3 bk_17_6 := (vm_bs 7 (fs_iload_n (i := 0) rfl) rfl (vm_bs 9 (fs_bipush rfl ci_15) rfl (vm_be (fj_icmp rfl rfl))))
noncomputable def bk_17_12 : vm_G := fun ba k => fq_cst (.inl (.ofNat 1, .ofNat 1)) (k 13)
theorem bo_17_12 : vm_bok m_17 12 1 bk_17_12 := (vm_bs 13 (fs_iconst rfl ci_3) rfl vm_bf)
noncomputable def bk_17_14 : vm_G := fun ba k => fq_ldi 0 (fq_cst (.inl (.ofNat 48, .ofNat 48)) (fq_ic fm_lt 28 20 k))
theorem bo_17_14 : vm_bok m_17 14 3 bk_17_14 := (vm_bs 15 (fs_iload_n (i := 0) rfl) rfl (vm_bs 17 (fs_bipush rfl ci_16) rfl (vm_be (fj_icmp rfl rfl))))
noncomputable def bk_17_20 : vm_G := fun ba k => fq_ldi 0 (fq_cst (.inl (.ofNat 57, .ofNat 57)) (fq_ic fm_gt 28 26 k))
theorem bo_17_20 : vm_bok m_17 20 3 bk_17_20 := (vm_bs 21 (fs_iload_n (i := 0) rfl) rfl (vm_bs 23 (fs_bipush rfl ci_17) rfl (vm_be (fj_icmp rfl rfl))))
noncomputable def bk_17_26 : vm_G := fun ba k => fq_cst (.inl (.ofNat 2, .ofNat 2)) (k 27)
theorem bo_17_26 : vm_bok m_17 26 1 bk_17_26 := (vm_bs 27 (fs_iconst rfl ci_13) rfl vm_bf)
noncomputable def bk_17_28 : vm_G := fun ba k => fq_ldi 0 (fq_cst (.inl (.ofNat 59, .ofNat 59)) (fq_ic fm_ne 38 34 k))
theorem bo_17_28 : vm_bok m_17 28 3 bk_17_28 := (vm_bs 29 (fs_iload_n (i := 0) rfl) rfl (vm_bs 31 (fs_bipush rfl ci_18) rfl (vm_be (fj_icmp rfl rfl))))
noncomputable def bk_17_34 : vm_G := fun ba k => fq_cst (.inl (.ofNat 3, .ofNat 3)) (fq_goto 39 k)
theorem bo_17_34 : vm_bok m_17 34 2 bk_17_34 := (vm_bs 35 (fs_iconst rfl ci_0) rfl (vm_be (fj_goto rfl)))
noncomputable def bk_17_38 : vm_G := fun ba k => fq_cst (.inl (.ofNat 0, .ofNat 0)) (k 39)
theorem bo_17_38 : vm_bok m_17 38 1 bk_17_38 := (vm_bs 39 (fs_iconst rfl ci_1) rfl vm_bf)
noncomputable def bt_17 : vm_T := [[(0, (.inr (3, bk_17_0))), (6, (.inr (3, bk_17_6))), (12, (.inr (1, bk_17_12))), (13, (.inl (fr_int .int))), (14, (.inr (3, bk_17_14)))], [(20, (.inr (3, bk_17_20))), (26, (.inr (1, bk_17_26))), (27, (.inl (fr_int .int))), (28, (.inr (3, bk_17_28)))], [(34, (.inr (2, bk_17_34))), (38, (.inr (1, bk_17_38))), (39, (.inl (fr_int .int)))]]
theorem bq_17 : ∀ mm, pm_m 17 = some mm → vm_tok mm bt_17 := fun mm h => by
  cases h
  exact (ft_c (fl_c (fy_blk bo_17_0 rfl) (fl_c (fy_blk bo_17_6 rfl) (fl_c (fy_blk bo_17_12 rfl) (fl_c (fr_int_ok rfl rfl) (fl_c (fy_blk bo_17_14 rfl) fl_n))))) (ft_c (fl_c (fy_blk bo_17_20 rfl) (fl_c (fy_blk bo_17_26 rfl) (fl_c (fr_int_ok rfl rfl) (fl_c (fy_blk bo_17_28 rfl) fl_n)))) (ft_c (fl_c (fy_blk bo_17_34 rfl) (fl_c (fy_blk bo_17_38 rfl) (fl_c (fr_int_ok rfl rfl) fl_n))) ft_n)))
noncomputable def bk_18_0 : vm_G := fun ba k => fq_lda 0 (fq_cst (.inl (.ofNat 0, .ofNat 0)) (fq_putf 2 4 .int (fq_lda 0 (fq_getf 2 3 (fq_sti 1 (k 10))))))
theorem bo_18_0 : vm_bok m_18 0 6 bk_18_0 := (vm_bs 1 (fs_aload_n (i := 0) rfl) rfl (vm_bs 2 (fs_iconst rfl ci_1) rfl (vm_bs 5 (fs_putfield rfl rfl) rfl (vm_bs 6 (fs_aload_n (i := 0) rfl) rfl (vm_bs 9 (fs_getfield rfl) rfl (vm_bs 10 (fs_istore_n (i := 1) rfl rfl) rfl vm_bf))))))
noncomputable def bk_18_10 : vm_G := fun ba k => fq_ldi 1 (fq_lda 0 (fq_getf 2 5 (fq_ic fm_ge 45 18 k)))
theorem bo_18_10 : vm_bok m_18 10 4 bk_18_10 := (vm_bs 11 (fs_iload_n (i := 1) rfl) rfl (vm_bs 12 (fs_aload_n (i := 0) rfl) rfl (vm_bs 15 (fs_getfield rfl) rfl (vm_be (fj_icmp rfl rfl)))))
noncomputable def bk_18_18 : vm_G := fun ba k => fq_lda 0 (fq_lda 0 (fq_getf 2 4 (fq_cst (.inl (.ofNat 10, .ofNat 10)) (fq_bi am_mul (fq_lda 0 (fq_getf 2 0 (fq_ldi 1 (fq_slow m_18 (.baload, 0, 0, 0) 31 32 ba (fq_bi fm_add (fq_cst (.inl (.ofNat 48, .ofNat 48)) (fq_bi fm_sub (fq_putf 2 4 .int (fq_iinc 1 (.ofNat 1, .ofNat 1) (fq_goto 10 k))))))))))))))
theorem bo_18_18 : vm_bok m_18 18 15 bk_18_18 := (vm_bs 19 (fs_aload_n (i := 0) rfl) rfl (vm_bs 20 (fs_aload_n (i := 0) rfl) rfl (vm_bs 23 (fs_getfield rfl) rfl (vm_bs 25 (fs_bipush rfl ci_19) rfl (vm_bs 26 (fs_imul rfl) rfl (vm_bs 27 (fs_aload_n (i := 0) rfl) rfl (vm_bs 30 (fs_getfield rfl) rfl (vm_bs 31 (fs_iload_n (i := 1) rfl) rfl (vm_bs 32 (fs_slow rfl) rfl (vm_bs 33 (fs_iadd rfl) rfl (vm_bs 35 (fs_bipush rfl ci_16) rfl (vm_bs 36 (fs_isub rfl) rfl (vm_bs 39 (fs_putfield rfl rfl) rfl (vm_bs 42 (fs_iinc rfl ci_3 rfl) rfl (vm_be (fj_goto rfl))))))))))))))))
noncomputable def bk_18_45 : vm_G := fun ba k => fq_lda 0 (fq_getf 2 5 (fq_lda 0 (fq_getf 2 3 (fq_bi fm_sub (fq_cst (.inl (.ofNat 2, .ofNat 2)) (fq_ic fm_le 63 58 k))))))
theorem bo_18_45 : vm_bok m_18 45 7 bk_18_45 := (vm_bs 46 (fs_aload_n (i := 0) rfl) rfl (vm_bs 49 (fs_getfield rfl) rfl (vm_bs 50 (fs_aload_n (i := 0) rfl) rfl (vm_bs 53 (fs_getfield rfl) rfl (vm_bs 54 (fs_isub rfl) rfl (vm_bs 55 (fs_iconst rfl ci_13) rfl (vm_be (fj_icmp rfl rfl))))))))
noncomputable def bk_18_58 : vm_G := fun ba k => fq_lda 0 (fq_cst (.inl (.ofNat 0, .ofNat 0)) (fq_putf 2 2 .int (k 63)))
theorem bo_18_58 : vm_bok m_18 58 3 bk_18_58 := (vm_bs 59 (fs_aload_n (i := 0) rfl) rfl (vm_bs 60 (fs_iconst rfl ci_1) rfl (vm_bs 63 (fs_putfield rfl rfl) rfl vm_bf)))
noncomputable def bt_18 : vm_T := [[(0, (.inr (6, bk_18_0))), (10, (.inr (4, bk_18_10)))], [(18, (.inr (15, bk_18_18)))], [(45, (.inr (7, bk_18_45)))], [(58, (.inr (3, bk_18_58))), (63, (.inl fr_void))]]
theorem bq_18 : ∀ mm, pm_m 18 = some mm → vm_tok mm bt_18 := fun mm h => by
  cases h
  exact (ft_c (fl_c (fy_blk bo_18_0 rfl) (fl_c (fy_blk bo_18_10 rfl) fl_n)) (ft_c (fl_c (fy_blk bo_18_18 rfl) fl_n) (ft_c (fl_c (fy_blk bo_18_45 rfl) fl_n) (ft_c (fl_c (fy_blk bo_18_58 rfl) (fl_c (fr_void_ok rfl rfl) fl_n)) ft_n))))
noncomputable def bk_19_0 : vm_G := fun ba k => fq_lda 0 (fq_getf 3 4 (fq_getf 2 2 (fq_if fm_ne 25 10 k)))
theorem bo_19_0 : vm_bok m_19 0 4 bk_19_0 := (vm_bs 1 (fs_aload_n (i := 0) rfl) rfl (vm_bs 4 (fs_getfield rfl) rfl (vm_bs 7 (fs_getfield rfl) rfl (vm_be (fj_if rfl rfl)))))
noncomputable def bk_19_10 : vm_G := fun ba k => fq_lda 0 (fq_cst (.inl (.ofNat 1, .ofNat 1)) (fq_lda 0 (fq_getf 3 4 (fq_getf 2 3 (fq_call 20 3 (some 3) 0 0 ba (fq_goto 172 k))))))
theorem bo_19_10 : vm_bok m_19 10 7 bk_19_10 := (vm_bs 11 (fs_aload_n (i := 0) rfl) rfl (vm_bs 12 (fs_iconst rfl ci_3) rfl (vm_bs 13 (fs_aload_n (i := 0) rfl) rfl (vm_bs 16 (fs_getfield rfl) rfl (vm_bs 19 (fs_getfield rfl) rfl (vm_bs 22 (fs_inv rfl (Or.inl ⟨rfl, rfl⟩) rfl rfl rfl) rfl (vm_be (fj_goto rfl))))))))
noncomputable def bk_19_25 : vm_G := fun ba k => fq_lda 0 (fq_getf 3 4 (fq_slow m_19 (.ldc 76, 1, 1, 0) 29 31 ba (fq_call 21 2 (some 2) 0 0 ba (fq_if fm_eq 44 37 k))))
theorem bo_19_25 : vm_bok m_19 25 5 bk_19_25 := (vm_bs 26 (fs_aload_n (i := 0) rfl) rfl (vm_bs 29 (fs_getfield rfl) rfl (vm_bs 31 (fs_slow rfl) rfl (vm_bs 34 (fs_inv rfl (Or.inl ⟨rfl, rfl⟩) rfl rfl rfl) rfl (vm_be (fj_if rfl rfl))))))
noncomputable def bk_19_37 : vm_G := fun ba k => fq_lda 0 (fq_call 22 1 (some 3) 0 0 ba (fq_goto 172 k))
theorem bo_19_37 : vm_bok m_19 37 3 bk_19_37 := (vm_bs 38 (fs_aload_n (i := 0) rfl) rfl (vm_bs 41 (fs_inv rfl (Or.inl ⟨rfl, rfl⟩) rfl rfl rfl) rfl (vm_be (fj_goto rfl))))
noncomputable def bk_19_44 : vm_G := fun ba k => fq_lda 0 (fq_getf 3 4 (fq_slow m_19 (.ldc 85, 1, 2, 0) 48 50 ba (fq_call 21 2 (some 2) 0 0 ba (fq_if fm_eq 63 56 k))))
theorem bo_19_44 : vm_bok m_19 44 5 bk_19_44 := (vm_bs 45 (fs_aload_n (i := 0) rfl) rfl (vm_bs 48 (fs_getfield rfl) rfl (vm_bs 50 (fs_slow rfl) rfl (vm_bs 53 (fs_inv rfl (Or.inl ⟨rfl, rfl⟩) rfl rfl rfl) rfl (vm_be (fj_if rfl rfl))))))
noncomputable def bk_19_56 : vm_G := fun ba k => fq_lda 0 (fq_call 26 1 (some 3) 0 0 ba (fq_goto 172 k))
theorem bo_19_56 : vm_bok m_19 56 3 bk_19_56 := (vm_bs 57 (fs_aload_n (i := 0) rfl) rfl (vm_bs 60 (fs_inv rfl (Or.inl ⟨rfl, rfl⟩) rfl rfl rfl) rfl (vm_be (fj_goto rfl))))
noncomputable def bk_19_63 : vm_G := fun ba k => fq_lda 0 (fq_getf 3 4 (fq_slow m_19 (.ldc 90, 1, 3, 0) 67 69 ba (fq_call 21 2 (some 2) 0 0 ba (fq_if fm_eq 83 75 k))))
theorem bo_19_63 : vm_bok m_19 63 5 bk_19_63 := (vm_bs 64 (fs_aload_n (i := 0) rfl) rfl (vm_bs 67 (fs_getfield rfl) rfl (vm_bs 69 (fs_slow rfl) rfl (vm_bs 72 (fs_inv rfl (Or.inl ⟨rfl, rfl⟩) rfl rfl rfl) rfl (vm_be (fj_if rfl rfl))))))
noncomputable def bk_19_75 : vm_G := fun ba k => fq_lda 0 (fq_cst (.inl (.ofNat 0, .ofNat 0)) (fq_call 31 2 (some 3) 0 0 ba (fq_goto 172 k)))
theorem bo_19_75 : vm_bok m_19 75 4 bk_19_75 := (vm_bs 76 (fs_aload_n (i := 0) rfl) rfl (vm_bs 77 (fs_iconst rfl ci_1) rfl (vm_bs 80 (fs_inv rfl (Or.inl ⟨rfl, rfl⟩) rfl rfl rfl) rfl (vm_be (fj_goto rfl)))))
noncomputable def bk_19_83 : vm_G := fun ba k => fq_lda 0 (fq_getf 3 4 (fq_slow m_19 (.ldc 96, 1, 4, 0) 87 89 ba (fq_call 21 2 (some 2) 0 0 ba (fq_if fm_eq 103 95 k))))
theorem bo_19_83 : vm_bok m_19 83 5 bk_19_83 := (vm_bs 84 (fs_aload_n (i := 0) rfl) rfl (vm_bs 87 (fs_getfield rfl) rfl (vm_bs 89 (fs_slow rfl) rfl (vm_bs 92 (fs_inv rfl (Or.inl ⟨rfl, rfl⟩) rfl rfl rfl) rfl (vm_be (fj_if rfl rfl))))))
noncomputable def bk_19_95 : vm_G := fun ba k => fq_lda 0 (fq_cst (.inl (.ofNat 1, .ofNat 1)) (fq_call 31 2 (some 3) 0 0 ba (fq_goto 172 k)))
theorem bo_19_95 : vm_bok m_19 95 4 bk_19_95 := (vm_bs 96 (fs_aload_n (i := 0) rfl) rfl (vm_bs 97 (fs_iconst rfl ci_3) rfl (vm_bs 100 (fs_inv rfl (Or.inl ⟨rfl, rfl⟩) rfl rfl rfl) rfl (vm_be (fj_goto rfl)))))
noncomputable def bk_19_103 : vm_G := fun ba k => fq_lda 0 (fq_getf 3 4 (fq_slow m_19 (.ldc 98, 1, 5, 0) 107 109 ba (fq_call 21 2 (some 2) 0 0 ba (fq_if fm_eq 122 115 k))))
theorem bo_19_103 : vm_bok m_19 103 5 bk_19_103 := (vm_bs 104 (fs_aload_n (i := 0) rfl) rfl (vm_bs 107 (fs_getfield rfl) rfl (vm_bs 109 (fs_slow rfl) rfl (vm_bs 112 (fs_inv rfl (Or.inl ⟨rfl, rfl⟩) rfl rfl rfl) rfl (vm_be (fj_if rfl rfl))))))
noncomputable def bk_19_115 : vm_G := fun ba k => fq_lda 0 (fq_call 33 1 (some 3) 0 0 ba (fq_goto 172 k))
theorem bo_19_115 : vm_bok m_19 115 3 bk_19_115 := (vm_bs 116 (fs_aload_n (i := 0) rfl) rfl (vm_bs 119 (fs_inv rfl (Or.inl ⟨rfl, rfl⟩) rfl rfl rfl) rfl (vm_be (fj_goto rfl))))
noncomputable def bk_19_122 : vm_G := fun ba k => fq_lda 0 (fq_getf 3 4 (fq_slow m_19 (.ldc 103, 1, 6, 0) 126 128 ba (fq_call 21 2 (some 2) 0 0 ba (fq_if fm_eq 141 134 k))))
theorem bo_19_122 : vm_bok m_19 122 5 bk_19_122 := (vm_bs 123 (fs_aload_n (i := 0) rfl) rfl (vm_bs 126 (fs_getfield rfl) rfl (vm_bs 128 (fs_slow rfl) rfl (vm_bs 131 (fs_inv rfl (Or.inl ⟨rfl, rfl⟩) rfl rfl rfl) rfl (vm_be (fj_if rfl rfl))))))
noncomputable def bk_19_134 : vm_G := fun ba k => fq_lda 0 (fq_call 34 1 (some 3) 0 0 ba (fq_goto 172 k))
theorem bo_19_134 : vm_bok m_19 134 3 bk_19_134 := (vm_bs 135 (fs_aload_n (i := 0) rfl) rfl (vm_bs 138 (fs_inv rfl (Or.inl ⟨rfl, rfl⟩) rfl rfl rfl) rfl (vm_be (fj_goto rfl))))
noncomputable def bk_19_141 : vm_G := fun ba k => fq_lda 0 (fq_getf 3 4 (fq_slow m_19 (.ldc 108, 1, 7, 0) 145 147 ba (fq_call 21 2 (some 2) 0 0 ba (fq_if fm_eq 160 153 k))))
theorem bo_19_141 : vm_bok m_19 141 5 bk_19_141 := (vm_bs 142 (fs_aload_n (i := 0) rfl) rfl (vm_bs 145 (fs_getfield rfl) rfl (vm_bs 147 (fs_slow rfl) rfl (vm_bs 150 (fs_inv rfl (Or.inl ⟨rfl, rfl⟩) rfl rfl rfl) rfl (vm_be (fj_if rfl rfl))))))
noncomputable def bk_19_153 : vm_G := fun ba k => fq_lda 0 (fq_call 35 1 (some 3) 0 0 ba (fq_goto 172 k))
theorem bo_19_153 : vm_bok m_19 153 3 bk_19_153 := (vm_bs 154 (fs_aload_n (i := 0) rfl) rfl (vm_bs 157 (fs_inv rfl (Or.inl ⟨rfl, rfl⟩) rfl rfl rfl) rfl (vm_be (fj_goto rfl))))
noncomputable def bk_19_160 : vm_G := fun ba k => fq_lda 0 (fq_cst (.inl (.ofNat 2, .ofNat 2)) (fq_lda 0 (fq_getf 3 4 (fq_getf 2 3 (fq_call 20 3 (some 3) 0 0 ba (k 172))))))
theorem bo_19_160 : vm_bok m_19 160 6 bk_19_160 := (vm_bs 161 (fs_aload_n (i := 0) rfl) rfl (vm_bs 162 (fs_iconst rfl ci_13) rfl (vm_bs 163 (fs_aload_n (i := 0) rfl) rfl (vm_bs 166 (fs_getfield rfl) rfl (vm_bs 169 (fs_getfield rfl) rfl (vm_bs 172 (fs_inv rfl (Or.inl ⟨rfl, rfl⟩) rfl rfl rfl) rfl vm_bf))))))
noncomputable def bt_19 : vm_T := [[(0, (.inr (4, bk_19_0))), (10, (.inr (7, bk_19_10)))], [(25, (.inr (5, bk_19_25)))], [(37, (.inr (3, bk_19_37))), (44, (.inr (5, bk_19_44)))], [(56, (.inr (3, bk_19_56))), (63, (.inr (5, bk_19_63)))], [(75, (.inr (4, bk_19_75)))], [(83, (.inr (5, bk_19_83))), (95, (.inr (4, bk_19_95)))], [(103, (.inr (5, bk_19_103)))], [(115, (.inr (3, bk_19_115))), (122, (.inr (5, bk_19_122)))], [(134, (.inr (3, bk_19_134))), (141, (.inr (5, bk_19_141)))], [(153, (.inr (3, bk_19_153)))], [(160, (.inr (6, bk_19_160))), (172, (.inl fr_void))]]
theorem bq_19 : ∀ mm, pm_m 19 = some mm → vm_tok mm bt_19 := fun mm h => by
  cases h
  exact (ft_c (fl_c (fy_blk bo_19_0 rfl) (fl_c (fy_blk bo_19_10 rfl) fl_n)) (ft_c (fl_c (fy_blk bo_19_25 rfl) fl_n) (ft_c (fl_c (fy_blk bo_19_37 rfl) (fl_c (fy_blk bo_19_44 rfl) fl_n)) (ft_c (fl_c (fy_blk bo_19_56 rfl) (fl_c (fy_blk bo_19_63 rfl) fl_n)) (ft_c (fl_c (fy_blk bo_19_75 rfl) fl_n) (ft_c (fl_c (fy_blk bo_19_83 rfl) (fl_c (fy_blk bo_19_95 rfl) fl_n)) (ft_c (fl_c (fy_blk bo_19_103 rfl) fl_n) (ft_c (fl_c (fy_blk bo_19_115 rfl) (fl_c (fy_blk bo_19_122 rfl) fl_n)) (ft_c (fl_c (fy_blk bo_19_134 rfl) (fl_c (fy_blk bo_19_141 rfl) fl_n)) (ft_c (fl_c (fy_blk bo_19_153 rfl) fl_n) (ft_c (fl_c (fy_blk bo_19_160 rfl) (fl_c (fr_void_ok rfl rfl) fl_n)) ft_n)))))))))))
noncomputable def bk_20_0 : vm_G := fun ba k => fq_lda 0 (fq_ldi 1 (fq_putf 3 2 .int (fq_lda 0 (fq_ldi 2 (fq_putf 3 3 .int (k 10))))))
theorem bo_20_0 : vm_bok m_20 0 6 bk_20_0 := (vm_bs 1 (fs_aload_n (i := 0) rfl) rfl (vm_bs 2 (fs_iload_n (i := 1) rfl) rfl (vm_bs 5 (fs_putfield rfl rfl) rfl (vm_bs 6 (fs_aload_n (i := 0) rfl) rfl (vm_bs 7 (fs_iload_n (i := 2) rfl) rfl (vm_bs 10 (fs_putfield rfl rfl) rfl vm_bf))))))
noncomputable def bt_20 : vm_T := [[(0, (.inr (6, bk_20_0))), (10, (.inl fr_void))]]
theorem bq_20 : ∀ mm, pm_m 20 = some mm → vm_tok mm bt_20 := fun mm h => by
  cases h
  exact (ft_c (fl_c (fy_blk bo_20_0 rfl) (fl_c (fr_void_ok rfl rfl) fl_n)) ft_n)
noncomputable def bk_21_0 : vm_G := fun ba k => fq_lda 0 (fq_getf 2 2 (fq_cst (.inl (.ofNat 1, .ofNat 1)) (fq_ic fm_ne 24 8 k)))
theorem bo_21_0 : vm_bok m_21 0 4 bk_21_0 := (vm_bs 1 (fs_aload_n (i := 0) rfl) rfl (vm_bs 4 (fs_getfield rfl) rfl (vm_bs 5 (fs_iconst rfl ci_3) rfl (vm_be (fj_icmp rfl rfl)))))
noncomputable def bk_21_8 : vm_G := fun ba k => fq_lda 0 (fq_getf 2 5 (fq_lda 0 (fq_getf 2 3 (fq_bi fm_sub (fq_lda 1 (fq_slow m_21 (.invokevirtual 38, 0, 4, 0) 18 21 ba (fq_ic fm_eq 26 24 k)))))))
theorem bo_21_8 : vm_bok m_21 8 8 bk_21_8 := (vm_bs 9 (fs_aload_n (i := 0) rfl) rfl (vm_bs 12 (fs_getfield rfl) rfl (vm_bs 13 (fs_aload_n (i := 0) rfl) rfl (vm_bs 16 (fs_getfield rfl) rfl (vm_bs 17 (fs_isub rfl) rfl (vm_bs 18 (fs_aload_n (i := 1) rfl) rfl (vm_bs 21 (fs_slow rfl) rfl (vm_be (fj_icmp rfl rfl)))))))))
noncomputable def bk_21_24 : vm_G := fun ba k => fq_cst (.inl (.ofNat 0, .ofNat 0)) (k 25)
theorem bo_21_24 : vm_bok m_21 24 1 bk_21_24 := (vm_bs 25 (fs_iconst rfl ci_1) rfl vm_bf)
noncomputable def bk_21_26 : vm_G := fun ba k => fq_cst (.inl (.ofNat 0, .ofNat 0)) (fq_sti 2 (k 28))
theorem bo_21_26 : vm_bok m_21 26 2 bk_21_26 := (vm_bs 27 (fs_iconst rfl ci_1) rfl (vm_bs 28 (fs_istore_n (i := 2) rfl rfl) rfl vm_bf))
noncomputable def bk_21_28 : vm_G := fun ba k => fq_ldi 2 (fq_lda 1 (fq_slow m_21 (.invokevirtual 38, 0, 4, 0) 30 33 ba (fq_ic fm_ge 63 36 k)))
theorem bo_21_28 : vm_bok m_21 28 4 bk_21_28 := (vm_bs 29 (fs_iload_n (i := 2) rfl) rfl (vm_bs 30 (fs_aload_n (i := 1) rfl) rfl (vm_bs 33 (fs_slow rfl) rfl (vm_be (fj_icmp rfl rfl)))))
noncomputable def bk_21_36 : vm_G := fun ba k => fq_lda 0 (fq_getf 2 0 (fq_lda 0 (fq_getf 2 3 (fq_ldi 2 (fq_bi fm_add (fq_slow m_21 (.baload, 0, 0, 0) 46 47 ba (fq_lda 1 (fq_ldi 2 (fq_slow m_21 (.invokevirtual 43, 0, 5, 0) 49 52 ba (fq_ic fm_eq 57 55 k))))))))))
theorem bo_21_36 : vm_bok m_21 36 11 bk_21_36 := (vm_bs 37 (fs_aload_n (i := 0) rfl) rfl (vm_bs 40 (fs_getfield rfl) rfl (vm_bs 41 (fs_aload_n (i := 0) rfl) rfl (vm_bs 44 (fs_getfield rfl) rfl (vm_bs 45 (fs_iload_n (i := 2) rfl) rfl (vm_bs 46 (fs_iadd rfl) rfl (vm_bs 47 (fs_slow rfl) rfl (vm_bs 48 (fs_aload_n (i := 1) rfl) rfl (vm_bs 49 (fs_iload_n (i := 2) rfl) rfl (vm_bs 52 (fs_slow rfl) rfl (vm_be (fj_icmp rfl rfl))))))))))))
noncomputable def bk_21_55 : vm_G := fun ba k => fq_cst (.inl (.ofNat 0, .ofNat 0)) (k 56)
theorem bo_21_55 : vm_bok m_21 55 1 bk_21_55 := (vm_bs 56 (fs_iconst rfl ci_1) rfl vm_bf)
noncomputable def bk_21_57 : vm_G := fun ba k => fq_iinc 2 (.ofNat 1, .ofNat 1) (fq_goto 28 k)
theorem bo_21_57 : vm_bok m_21 57 2 bk_21_57 := (vm_bs 60 (fs_iinc rfl ci_3 rfl) rfl (vm_be (fj_goto rfl)))
noncomputable def bk_21_63 : vm_G := fun ba k => fq_cst (.inl (.ofNat 1, .ofNat 1)) (k 64)
theorem bo_21_63 : vm_bok m_21 63 1 bk_21_63 := (vm_bs 64 (fs_iconst rfl ci_3) rfl vm_bf)
noncomputable def bt_21 : vm_T := [[(0, (.inr (4, bk_21_0))), (8, (.inr (8, bk_21_8)))], [(24, (.inr (1, bk_21_24))), (25, (.inl (fr_int .boolean))), (26, (.inr (2, bk_21_26))), (28, (.inr (4, bk_21_28)))], [(36, (.inr (11, bk_21_36)))], [(55, (.inr (1, bk_21_55))), (56, (.inl (fr_int .boolean))), (57, (.inr (2, bk_21_57))), (63, (.inr (1, bk_21_63)))], [(64, (.inl (fr_int .boolean)))]]
theorem bq_21 : ∀ mm, pm_m 21 = some mm → vm_tok mm bt_21 := fun mm h => by
  cases h
  exact (ft_c (fl_c (fy_blk bo_21_0 rfl) (fl_c (fy_blk bo_21_8 rfl) fl_n)) (ft_c (fl_c (fy_blk bo_21_24 rfl) (fl_c (fr_int_ok rfl rfl) (fl_c (fy_blk bo_21_26 rfl) (fl_c (fy_blk bo_21_28 rfl) fl_n)))) (ft_c (fl_c (fy_blk bo_21_36 rfl) fl_n) (ft_c (fl_c (fy_blk bo_21_55 rfl) (fl_c (fr_int_ok rfl rfl) (fl_c (fy_blk bo_21_57 rfl) (fl_c (fy_blk bo_21_63 rfl) fl_n)))) (ft_c (fl_c (fr_int_ok rfl rfl) fl_n) ft_n)))))
noncomputable def bk_22_0 : vm_G := fun ba k => fq_lda 0 (fq_lda 0 (fq_getf 3 5 (fq_call 23 2 (some 3) 0 0 ba (fq_lda 0 (fq_cst (.inl (.ofNat 1, .ofNat 1)) (fq_putf 3 5 .boolean (fq_lda 0 (fq_getf 3 0 (fq_lda 0 (fq_cst (.inl (.ofNat 2, .ofNat 2)) (fq_cst (.inl (.ofNat 5, .ofNat 5)) (fq_call 24 3 (some 3) 0 0 ba (fq_putf 4 0 .int (fq_lda 0 (fq_getf 3 0 (fq_lda 0 (fq_cst (.inl (.ofNat 2, .ofNat 2)) (fq_cst (.inl (.ofNat 5, .ofNat 5)) (fq_call 24 3 (some 3) 0 0 ba (fq_putf 4 1 .int (k 39)))))))))))))))))))))
theorem bo_22_0 : vm_bok m_22 0 21 bk_22_0 := (vm_bs 1 (fs_aload_n (i := 0) rfl) rfl (vm_bs 2 (fs_aload_n (i := 0) rfl) rfl (vm_bs 5 (fs_getfield rfl) rfl (vm_bs 8 (fs_inv rfl (Or.inl ⟨rfl, rfl⟩) rfl rfl rfl) rfl (vm_bs 9 (fs_aload_n (i := 0) rfl) rfl (vm_bs 10 (fs_iconst rfl ci_3) rfl (vm_bs 13 (fs_putfield rfl rfl) rfl (vm_bs 14 (fs_aload_n (i := 0) rfl) rfl (vm_bs 17 (fs_getfield rfl) rfl (vm_bs 18 (fs_aload_n (i := 0) rfl) rfl (vm_bs 19 (fs_iconst rfl ci_13) rfl (vm_bs 20 (fs_iconst rfl ci_5) rfl (vm_bs 23 (fs_inv rfl (Or.inl ⟨rfl, rfl⟩) rfl rfl rfl) rfl (vm_bs 26 (fs_putfield rfl rfl) rfl (vm_bs 27 (fs_aload_n (i := 0) rfl) rfl (vm_bs 30 (fs_getfield rfl) rfl (vm_bs 31 (fs_aload_n (i := 0) rfl) rfl (vm_bs 32 (fs_iconst rfl ci_13) rfl (vm_bs 33 (fs_iconst rfl ci_5) rfl (vm_bs 36 (fs_inv rfl (Or.inl ⟨rfl, rfl⟩) rfl rfl rfl) rfl (vm_bs 39 (fs_putfield rfl rfl) rfl vm_bf)))))))))))))))))))))
noncomputable def bt_22 : vm_T := [[(0, (.inr (21, bk_22_0)))], [], [(39, (.inl fr_void))]]
theorem bq_22 : ∀ mm, pm_m 22 = some mm → vm_tok mm bt_22 := fun mm h => by
  cases h
  exact (ft_c (fl_c (fy_blk bo_22_0 rfl) fl_n) (ft_c fl_n (ft_c (fl_c (fr_void_ok rfl rfl) fl_n) ft_n)))
noncomputable def bk_23_0 : vm_G := fun ba k => fq_ldi 1 (fq_if fm_eq 16 4 k)
theorem bo_23_0 : vm_bok m_23 0 2 bk_23_0 := (vm_bs 1 (fs_iload_n (i := 1) rfl) rfl (vm_be (fj_if rfl rfl)))
noncomputable def bk_23_4 : vm_G := fun ba k => fq_lda 0 (fq_cst (.inl (.ofNat 4, .ofNat 4)) (fq_lda 0 (fq_getf 3 4 (fq_getf 2 3 (fq_call 20 3 (some 3) 0 0 ba (k 16))))))
theorem bo_23_4 : vm_bok m_23 4 6 bk_23_4 := (vm_bs 5 (fs_aload_n (i := 0) rfl) rfl (vm_bs 6 (fs_iconst rfl ci_4) rfl (vm_bs 7 (fs_aload_n (i := 0) rfl) rfl (vm_bs 10 (fs_getfield rfl) rfl (vm_bs 13 (fs_getfield rfl) rfl (vm_bs 16 (fs_inv rfl (Or.inl ⟨rfl, rfl⟩) rfl rfl rfl) rfl vm_bf))))))
noncomputable def bt_23 : vm_T := [[(0, (.inr (2, bk_23_0))), (4, (.inr (6, bk_23_4)))], [(16, (.inl fr_void))]]
theorem bq_23 : ∀ mm, pm_m 23 = some mm → vm_tok mm bt_23 := fun mm h => by
  cases h
  exact (ft_c (fl_c (fy_blk bo_23_0 rfl) (fl_c (fy_blk bo_23_4 rfl) fl_n)) (ft_c (fl_c (fr_void_ok rfl rfl) fl_n) ft_n))
noncomputable def bk_24_0 : vm_G := fun ba k => fq_lda 0 (fq_cst (.inl (.ofNat 2, .ofNat 2)) (fq_call 25 2 (some 3) 0 0 ba (fq_if fm_ne 10 8 k)))
theorem bo_24_0 : vm_bok m_24 0 4 bk_24_0 := (vm_bs 1 (fs_aload_n (i := 0) rfl) rfl (vm_bs 2 (fs_iconst rfl ci_13) rfl (vm_bs 5 (fs_inv rfl (Or.inl ⟨rfl, rfl⟩) rfl rfl rfl) rfl (vm_be (fj_if rfl rfl)))))
noncomputable def bk_24_8 : vm_G := fun ba k => fq_cst (.inl (.ofNat 0, .ofNat 0)) (k 9)
theorem bo_24_8 : vm_bok m_24 8 1 bk_24_8 := (vm_bs 9 (fs_iconst rfl ci_1) rfl vm_bf)
noncomputable def bk_24_10 : vm_G := fun ba k => fq_lda 0 (fq_getf 3 4 (fq_getf 2 4 (fq_ldi 1 (fq_ic fm_lt 32 21 k))))
theorem bo_24_10 : vm_bok m_24 10 5 bk_24_10 := (vm_bs 11 (fs_aload_n (i := 0) rfl) rfl (vm_bs 14 (fs_getfield rfl) rfl (vm_bs 17 (fs_getfield rfl) rfl (vm_bs 18 (fs_iload_n (i := 1) rfl) rfl (vm_be (fj_icmp rfl rfl))))))
noncomputable def bk_24_21 : vm_G := fun ba k => fq_lda 0 (fq_getf 3 4 (fq_getf 2 4 (fq_ldi 2 (fq_ic fm_le 46 32 k))))
theorem bo_24_21 : vm_bok m_24 21 5 bk_24_21 := (vm_bs 22 (fs_aload_n (i := 0) rfl) rfl (vm_bs 25 (fs_getfield rfl) rfl (vm_bs 28 (fs_getfield rfl) rfl (vm_bs 29 (fs_iload_n (i := 2) rfl) rfl (vm_be (fj_icmp rfl rfl))))))
noncomputable def bk_24_32 : vm_G := fun ba k => fq_lda 0 (fq_cst (.inl (.ofNat 3, .ofNat 3)) (fq_lda 0 (fq_getf 3 4 (fq_getf 2 3 (fq_call 20 3 (some 3) 0 0 ba (fq_cst (.inl (.ofNat 0, .ofNat 0)) (k 45)))))))
theorem bo_24_32 : vm_bok m_24 32 7 bk_24_32 := (vm_bs 33 (fs_aload_n (i := 0) rfl) rfl (vm_bs 34 (fs_iconst rfl ci_0) rfl (vm_bs 35 (fs_aload_n (i := 0) rfl) rfl (vm_bs 38 (fs_getfield rfl) rfl (vm_bs 41 (fs_getfield rfl) rfl (vm_bs 44 (fs_inv rfl (Or.inl ⟨rfl, rfl⟩) rfl rfl rfl) rfl (vm_bs 45 (fs_iconst rfl ci_1) rfl vm_bf)))))))
noncomputable def bk_24_46 : vm_G := fun ba k => fq_lda 0 (fq_getf 3 4 (fq_getf 2 4 (k 53)))
theorem bo_24_46 : vm_bok m_24 46 3 bk_24_46 := (vm_bs 47 (fs_aload_n (i := 0) rfl) rfl (vm_bs 50 (fs_getfield rfl) rfl (vm_bs 53 (fs_getfield rfl) rfl vm_bf)))
noncomputable def bt_24 : vm_T := [[(0, (.inr (4, bk_24_0))), (8, (.inr (1, bk_24_8))), (9, (.inl (fr_int .int))), (10, (.inr (5, bk_24_10)))], [(21, (.inr (5, bk_24_21)))], [(32, (.inr (7, bk_24_32))), (45, (.inl (fr_int .int))), (46, (.inr (3, bk_24_46)))], [(53, (.inl (fr_int .int)))]]
theorem bq_24 : ∀ mm, pm_m 24 = some mm → vm_tok mm bt_24 := fun mm h => by
  cases h
  exact (ft_c (fl_c (fy_blk bo_24_0 rfl) (fl_c (fy_blk bo_24_8 rfl) (fl_c (fr_int_ok rfl rfl) (fl_c (fy_blk bo_24_10 rfl) fl_n)))) (ft_c (fl_c (fy_blk bo_24_21 rfl) fl_n) (ft_c (fl_c (fy_blk bo_24_32 rfl) (fl_c (fr_int_ok rfl rfl) (fl_c (fy_blk bo_24_46 rfl) fl_n))) (ft_c (fl_c (fr_int_ok rfl rfl) fl_n) ft_n))))
noncomputable def bk_25_0 : vm_G := fun ba k => fq_lda 0 (fq_getf 3 2 (fq_if fm_eq 9 7 k))
theorem bo_25_0 : vm_bok m_25 0 3 bk_25_0 := (vm_bs 1 (fs_aload_n (i := 0) rfl) rfl (vm_bs 4 (fs_getfield rfl) rfl (vm_be (fj_if rfl rfl))))
noncomputable def bk_25_7 : vm_G := fun ba k => fq_cst (.inl (.ofNat 0, .ofNat 0)) (k 8)
theorem bo_25_7 : vm_bok m_25 7 1 bk_25_7 := (vm_bs 8 (fs_iconst rfl ci_1) rfl vm_bf)
noncomputable def bk_25_9 : vm_G := fun ba k => fq_lda 0 (fq_getf 3 4 (fq_call 16 1 (some 2) 0 0 ba (fq_lda 0 (fq_getf 3 4 (fq_getf 2 2 (fq_ldi 1 (fq_ic fm_ne 29 27 k)))))))
theorem bo_25_9 : vm_bok m_25 9 8 bk_25_9 := (vm_bs 10 (fs_aload_n (i := 0) rfl) rfl (vm_bs 13 (fs_getfield rfl) rfl (vm_bs 16 (fs_inv rfl (Or.inl ⟨rfl, rfl⟩) rfl rfl rfl) rfl (vm_bs 17 (fs_aload_n (i := 0) rfl) rfl (vm_bs 20 (fs_getfield rfl) rfl (vm_bs 23 (fs_getfield rfl) rfl (vm_bs 24 (fs_iload_n (i := 1) rfl) rfl (vm_be (fj_icmp rfl rfl)))))))))
noncomputable def bk_25_27 : vm_G := fun ba k => fq_cst (.inl (.ofNat 1, .ofNat 1)) (k 28)
theorem bo_25_27 : vm_bok m_25 27 1 bk_25_27 := (vm_bs 28 (fs_iconst rfl ci_3) rfl vm_bf)
noncomputable def bk_25_29 : vm_G := fun ba k => fq_lda 0 (fq_lda 0 (fq_getf 3 4 (fq_getf 2 2 (fq_if fm_ne 44 40 k))))
theorem bo_25_29 : vm_bok m_25 29 5 bk_25_29 := (vm_bs 30 (fs_aload_n (i := 0) rfl) rfl (vm_bs 31 (fs_aload_n (i := 0) rfl) rfl (vm_bs 34 (fs_getfield rfl) rfl (vm_bs 37 (fs_getfield rfl) rfl (vm_be (fj_if rfl rfl))))))
noncomputable def bk_25_40 : vm_G := fun ba k => fq_cst (.inl (.ofNat 1, .ofNat 1)) (fq_goto 45 k)
theorem bo_25_40 : vm_bok m_25 40 2 bk_25_40 := (vm_bs 41 (fs_iconst rfl ci_3) rfl (vm_be (fj_goto rfl)))
noncomputable def bk_25_44 : vm_G := fun ba k => fq_cst (.inl (.ofNat 2, .ofNat 2)) (k 45)
theorem bo_25_44 : vm_bok m_25 44 1 bk_25_44 := (vm_bs 45 (fs_iconst rfl ci_13) rfl vm_bf)
noncomputable def bk_25_45 : vm_G := fun ba k => fq_lda 0 (fq_getf 3 4 (fq_getf 2 3 (fq_call 20 3 (some 3) 0 0 ba (fq_cst (.inl (.ofNat 0, .ofNat 0)) (k 56)))))
theorem bo_25_45 : vm_bok m_25 45 5 bk_25_45 := (vm_bs 46 (fs_aload_n (i := 0) rfl) rfl (vm_bs 49 (fs_getfield rfl) rfl (vm_bs 52 (fs_getfield rfl) rfl (vm_bs 55 (fs_inv rfl (Or.inl ⟨rfl, rfl⟩) rfl rfl rfl) rfl (vm_bs 56 (fs_iconst rfl ci_1) rfl vm_bf)))))
noncomputable def bt_25 : vm_T := [[(0, (.inr (3, bk_25_0))), (7, (.inr (1, bk_25_7))), (8, (.inl (fr_int .boolean))), (9, (.inr (8, bk_25_9)))], [(27, (.inr (1, bk_25_27))), (28, (.inl (fr_int .boolean))), (29, (.inr (5, bk_25_29)))], [(40, (.inr (2, bk_25_40))), (44, (.inr (1, bk_25_44))), (45, (.inr (5, bk_25_45)))], [(56, (.inl (fr_int .boolean)))]]
theorem bq_25 : ∀ mm, pm_m 25 = some mm → vm_tok mm bt_25 := fun mm h => by
  cases h
  exact (ft_c (fl_c (fy_blk bo_25_0 rfl) (fl_c (fy_blk bo_25_7 rfl) (fl_c (fr_int_ok rfl rfl) (fl_c (fy_blk bo_25_9 rfl) fl_n)))) (ft_c (fl_c (fy_blk bo_25_27 rfl) (fl_c (fr_int_ok rfl rfl) (fl_c (fy_blk bo_25_29 rfl) fl_n))) (ft_c (fl_c (fy_blk bo_25_40 rfl) (fl_c (fy_blk bo_25_44 rfl) (fl_c (fy_blk bo_25_45 rfl) fl_n))) (ft_c (fl_c (fr_int_ok rfl rfl) fl_n) ft_n))))
noncomputable def bk_26_0 : vm_G := fun ba k => fq_lda 0 (fq_cst (.inl (.ofNat 0, .ofNat 0)) (fq_cst (.inl (.ofNat 24, .ofNat 24)) (fq_call 24 3 (some 3) 0 0 ba (fq_sti 1 (fq_lda 0 (fq_ldi 1 (fq_call 27 2 (some 3) 0 0 ba (fq_lda 0 (fq_getf 3 0 (fq_dup (fq_getf 4 2 (fq_cst (.inl (.ofNat 1, .ofNat 1)) (fq_ldi 1 (fq_slow m_26 (.ishl, 0, 0, 0) 23 24 ba (fq_slow m_26 (.ior, 0, 0, 0) 24 25 ba (fq_putf 4 2 .int (k 28)))))))))))))))))
theorem bo_26_0 : vm_bok m_26 0 17 bk_26_0 := (vm_bs 1 (fs_aload_n (i := 0) rfl) rfl (vm_bs 2 (fs_iconst rfl ci_1) rfl (vm_bs 4 (fs_bipush rfl ci_20) rfl (vm_bs 7 (fs_inv rfl (Or.inl ⟨rfl, rfl⟩) rfl rfl rfl) rfl (vm_bs 8 (fs_istore_n (i := 1) rfl rfl) rfl (vm_bs 9 (fs_aload_n (i := 0) rfl) rfl (vm_bs 10 (fs_iload_n (i := 1) rfl) rfl (vm_bs 13 (fs_inv rfl (Or.inl ⟨rfl, rfl⟩) rfl rfl rfl) rfl (vm_bs 14 (fs_aload_n (i := 0) rfl) rfl (vm_bs 17 (fs_getfield rfl) rfl (vm_bs 18 (fs_dup rfl) rfl (vm_bs 21 (fs_getfield rfl) rfl (vm_bs 22 (fs_iconst rfl ci_3) rfl (vm_bs 23 (fs_iload_n (i := 1) rfl) rfl (vm_bs 24 (fs_slow rfl) rfl (vm_bs 25 (fs_slow rfl) rfl (vm_bs 28 (fs_putfield rfl rfl) rfl vm_bf)))))))))))))))))
noncomputable def bt_26 : vm_T := [[(0, (.inr (17, bk_26_0)))], [(28, (.inl fr_void))]]
theorem bq_26 : ∀ mm, pm_m 26 = some mm → vm_tok mm bt_26 := fun mm h => by
  cases h
  exact (ft_c (fl_c (fy_blk bo_26_0 rfl) fl_n) (ft_c (fl_c (fr_void_ok rfl rfl) fl_n) ft_n))
noncomputable def bk_27_0 : vm_G := fun ba k => fq_lda 0 (fq_getf 3 2 (fq_if fm_ne 30 7 k))
theorem bo_27_0 : vm_bok m_27 0 3 bk_27_0 := (vm_bs 1 (fs_aload_n (i := 0) rfl) rfl (vm_bs 4 (fs_getfield rfl) rfl (vm_be (fj_if rfl rfl))))
noncomputable def bk_27_7 : vm_G := fun ba k => fq_lda 0 (fq_getf 3 0 (fq_ldi 1 (fq_call 28 2 (some 4) 0 0 ba (fq_if fm_ne 30 18 k))))
theorem bo_27_7 : vm_bok m_27 7 5 bk_27_7 := (vm_bs 8 (fs_aload_n (i := 0) rfl) rfl (vm_bs 11 (fs_getfield rfl) rfl (vm_bs 12 (fs_iload_n (i := 1) rfl) rfl (vm_bs 15 (fs_inv rfl (Or.inl ⟨rfl, rfl⟩) rfl rfl rfl) rfl (vm_be (fj_if rfl rfl))))))
noncomputable def bk_27_18 : vm_G := fun ba k => fq_lda 0 (fq_cst (.inl (.ofNat 4, .ofNat 4)) (fq_lda 0 (fq_getf 3 4 (fq_getf 2 3 (fq_call 20 3 (some 3) 0 0 ba (k 30))))))
theorem bo_27_18 : vm_bok m_27 18 6 bk_27_18 := (vm_bs 19 (fs_aload_n (i := 0) rfl) rfl (vm_bs 20 (fs_iconst rfl ci_4) rfl (vm_bs 21 (fs_aload_n (i := 0) rfl) rfl (vm_bs 24 (fs_getfield rfl) rfl (vm_bs 27 (fs_getfield rfl) rfl (vm_bs 30 (fs_inv rfl (Or.inl ⟨rfl, rfl⟩) rfl rfl rfl) rfl vm_bf))))))
noncomputable def bt_27 : vm_T := [[(0, (.inr (3, bk_27_0))), (7, (.inr (5, bk_27_7)))], [(18, (.inr (6, bk_27_18))), (30, (.inl fr_void))]]
theorem bq_27 : ∀ mm, pm_m 27 = some mm → vm_tok mm bt_27 := fun mm h => by
  cases h
  exact (ft_c (fl_c (fy_blk bo_27_0 rfl) (fl_c (fy_blk bo_27_7 rfl) fl_n)) (ft_c (fl_c (fy_blk bo_27_18 rfl) (fl_c (fr_void_ok rfl rfl) fl_n)) ft_n))
noncomputable def bk_28_0 : vm_G := fun ba k => fq_lda 0 (fq_ldi 1 (fq_call 29 2 (some 4) 0 0 ba (fq_if fm_ne 22 8 k)))
theorem bo_28_0 : vm_bok m_28 0 4 bk_28_0 := (vm_bs 1 (fs_aload_n (i := 0) rfl) rfl (vm_bs 2 (fs_iload_n (i := 1) rfl) rfl (vm_bs 5 (fs_inv rfl (Or.inl ⟨rfl, rfl⟩) rfl rfl rfl) rfl (vm_be (fj_if rfl rfl)))))
noncomputable def bk_28_8 : vm_G := fun ba k => fq_lda 0 (fq_ldi 1 (fq_call 30 2 (some 4) 0 0 ba (fq_cst (.inl (.negSucc 3, .negSucc 3)) (fq_ic fm_ne 22 18 k))))
theorem bo_28_8 : vm_bok m_28 8 5 bk_28_8 := (vm_bs 9 (fs_aload_n (i := 0) rfl) rfl (vm_bs 10 (fs_iload_n (i := 1) rfl) rfl (vm_bs 13 (fs_inv rfl (Or.inl ⟨rfl, rfl⟩) rfl rfl rfl) rfl (vm_bs 15 (fs_bipush rfl ci_2) rfl (vm_be (fj_icmp rfl rfl))))))
noncomputable def bk_28_18 : vm_G := fun ba k => fq_cst (.inl (.ofNat 1, .ofNat 1)) (fq_goto 23 k)
theorem bo_28_18 : vm_bok m_28 18 2 bk_28_18 := (vm_bs 19 (fs_iconst rfl ci_3) rfl (vm_be (fj_goto rfl)))
noncomputable def bk_28_22 : vm_G := fun ba k => fq_cst (.inl (.ofNat 0, .ofNat 0)) (k 23)
theorem bo_28_22 : vm_bok m_28 22 1 bk_28_22 := (vm_bs 23 (fs_iconst rfl ci_1) rfl vm_bf)
noncomputable def bt_28 : vm_T := [[(0, (.inr (4, bk_28_0))), (8, (.inr (5, bk_28_8)))], [(18, (.inr (2, bk_28_18))), (22, (.inr (1, bk_28_22))), (23, (.inl (fr_int .boolean)))]]
theorem bq_28 : ∀ mm, pm_m 28 = some mm → vm_tok mm bt_28 := fun mm h => by
  cases h
  exact (ft_c (fl_c (fy_blk bo_28_0 rfl) (fl_c (fy_blk bo_28_8 rfl) fl_n)) (ft_c (fl_c (fy_blk bo_28_18 rfl) (fl_c (fy_blk bo_28_22 rfl) (fl_c (fr_int_ok rfl rfl) fl_n))) ft_n))
noncomputable def bk_29_0 : vm_G := fun ba k => fq_lda 0 (fq_getf 4 2 (fq_ldi 1 (fq_slow m_29 (.ishr, 0, 0, 0) 5 6 ba (fq_cst (.inl (.ofNat 1, .ofNat 1)) (fq_bi am_and (fq_if fm_eq 15 11 k))))))
theorem bo_29_0 : vm_bok m_29 0 7 bk_29_0 := (vm_bs 1 (fs_aload_n (i := 0) rfl) rfl (vm_bs 4 (fs_getfield rfl) rfl (vm_bs 5 (fs_iload_n (i := 1) rfl) rfl (vm_bs 6 (fs_slow rfl) rfl (vm_bs 7 (fs_iconst rfl ci_3) rfl (vm_bs 8 (fs_iand rfl) rfl (vm_be (fj_if rfl rfl))))))))
noncomputable def bk_29_11 : vm_G := fun ba k => fq_cst (.inl (.ofNat 1, .ofNat 1)) (fq_goto 16 k)
theorem bo_29_11 : vm_bok m_29 11 2 bk_29_11 := (vm_bs 12 (fs_iconst rfl ci_3) rfl (vm_be (fj_goto rfl)))
noncomputable def bk_29_15 : vm_G := fun ba k => fq_cst (.inl (.ofNat 0, .ofNat 0)) (k 16)
theorem bo_29_15 : vm_bok m_29 15 1 bk_29_15 := (vm_bs 16 (fs_iconst rfl ci_1) rfl vm_bf)
noncomputable def bt_29 : vm_T := [[(0, (.inr (7, bk_29_0))), (11, (.inr (2, bk_29_11))), (15, (.inr (1, bk_29_15)))], [(16, (.inl (fr_int .boolean)))]]
theorem bq_29 : ∀ mm, pm_m 29 = some mm → vm_tok mm bt_29 := fun mm h => by
  cases h
  exact (ft_c (fl_c (fy_blk bo_29_0 rfl) (fl_c (fy_blk bo_29_11 rfl) (fl_c (fy_blk bo_29_15 rfl) fl_n))) (ft_c (fl_c (fr_int_ok rfl rfl) fl_n) ft_n))
noncomputable def bk_30_0 : vm_G := fun ba k => fq_cst (.inl (.ofNat 0, .ofNat 0)) (fq_sti 2 (k 2))
theorem bo_30_0 : vm_bok m_30 0 2 bk_30_0 := (vm_bs 1 (fs_iconst rfl ci_1) rfl (vm_bs 2 (fs_istore_n (i := 2) rfl rfl) rfl vm_bf))
noncomputable def bk_30_2 : vm_G := fun ba k => fq_ldi 2 (fq_lda 0 (fq_getf 4 3 (fq_ic fm_ge 28 10 k)))
theorem bo_30_2 : vm_bok m_30 2 4 bk_30_2 := (vm_bs 3 (fs_iload_n (i := 2) rfl) rfl (vm_bs 4 (fs_aload_n (i := 0) rfl) rfl (vm_bs 7 (fs_getfield rfl) rfl (vm_be (fj_icmp rfl rfl)))))
noncomputable def bk_30_10 : vm_G := fun ba k => fq_lda 0 (fq_getf 4 7 (fq_ldi 2 (fq_iald (fq_ldi 1 (fq_ic fm_ne 22 20 k)))))
theorem bo_30_10 : vm_bok m_30 10 6 bk_30_10 := (vm_bs 11 (fs_aload_n (i := 0) rfl) rfl (vm_bs 14 (fs_getfield rfl) rfl (vm_bs 15 (fs_iload_n (i := 2) rfl) rfl (vm_bs 16 (fs_iaload rfl) rfl (vm_bs 17 (fs_iload_n (i := 1) rfl) rfl (vm_be (fj_icmp rfl rfl)))))))
noncomputable def bk_30_20 : vm_G := fun ba k => fq_ldi 2 (k 21)
theorem bo_30_20 : vm_bok m_30 20 1 bk_30_20 := (vm_bs 21 (fs_iload_n (i := 2) rfl) rfl vm_bf)
noncomputable def bk_30_22 : vm_G := fun ba k => fq_iinc 2 (.ofNat 1, .ofNat 1) (fq_goto 2 k)
theorem bo_30_22 : vm_bok m_30 22 2 bk_30_22 := (vm_bs 25 (fs_iinc rfl ci_3 rfl) rfl (vm_be (fj_goto rfl)))
noncomputable def bk_30_28 : vm_G := fun ba k => fq_cst (.inl (.negSucc 3, .negSucc 3)) (k 30)
theorem bo_30_28 : vm_bok m_30 28 1 bk_30_28 := (vm_bs 30 (fs_bipush rfl ci_2) rfl vm_bf)
noncomputable def bt_30 : vm_T := [[(0, (.inr (2, bk_30_0))), (2, (.inr (4, bk_30_2))), (10, (.inr (6, bk_30_10)))], [(20, (.inr (1, bk_30_20))), (21, (.inl (fr_int .int))), (22, (.inr (2, bk_30_22))), (28, (.inr (1, bk_30_28))), (30, (.inl (fr_int .int)))]]
theorem bq_30 : ∀ mm, pm_m 30 = some mm → vm_tok mm bt_30 := fun mm h => by
  cases h
  exact (ft_c (fl_c (fy_blk bo_30_0 rfl) (fl_c (fy_blk bo_30_2 rfl) (fl_c (fy_blk bo_30_10 rfl) fl_n))) (ft_c (fl_c (fy_blk bo_30_20 rfl) (fl_c (fr_int_ok rfl rfl) (fl_c (fy_blk bo_30_22 rfl) (fl_c (fy_blk bo_30_28 rfl) (fl_c (fr_int_ok rfl rfl) fl_n))))) ft_n))
noncomputable def bk_31_0 : vm_G := fun ba k => fq_lda 0 (fq_getf 3 0 (fq_getf 4 3 (fq_cst (.inl (.ofNat 5, .ofNat 5)) (fq_ic fm_lt 24 11 k))))
theorem bo_31_0 : vm_bok m_31 0 5 bk_31_0 := (vm_bs 1 (fs_aload_n (i := 0) rfl) rfl (vm_bs 4 (fs_getfield rfl) rfl (vm_bs 7 (fs_getfield rfl) rfl (vm_bs 8 (fs_iconst rfl ci_5) rfl (vm_be (fj_icmp rfl rfl))))))
noncomputable def bk_31_11 : vm_G := fun ba k => fq_lda 0 (fq_cst (.inl (.ofNat 5, .ofNat 5)) (fq_lda 0 (fq_getf 3 4 (fq_getf 2 3 (fq_call 20 3 (some 3) 0 0 ba (k 23))))))
theorem bo_31_11 : vm_bok m_31 11 6 bk_31_11 := (vm_bs 12 (fs_aload_n (i := 0) rfl) rfl (vm_bs 13 (fs_iconst rfl ci_5) rfl (vm_bs 14 (fs_aload_n (i := 0) rfl) rfl (vm_bs 17 (fs_getfield rfl) rfl (vm_bs 20 (fs_getfield rfl) rfl (vm_bs 23 (fs_inv rfl (Or.inl ⟨rfl, rfl⟩) rfl rfl rfl) rfl vm_bf))))))
noncomputable def bk_31_24 : vm_G := fun ba k => fq_lda 0 (fq_cst (.inl (.ofNat 0, .ofNat 0)) (fq_cst (.inl (.ofNat 24, .ofNat 24)) (fq_call 24 3 (some 3) 0 0 ba (fq_sti 2 (fq_lda 0 (fq_ldi 2 (fq_call 27 2 (some 3) 0 0 ba (fq_lda 0 (fq_cst (.inl (.ofNat 0, .ofNat 0)) (fq_cst (.inl (.ofNat 3, .ofNat 3)) (fq_call 24 3 (some 3) 0 0 ba (fq_sti 3 (fq_lda 0 (fq_getf 3 0 (fq_ldi 2 (fq_ldi 3 (fq_ldi 1 (fq_call 32 4 (some 4) 0 0 ba (k 54)))))))))))))))))))
theorem bo_31_24 : vm_bok m_31 24 19 bk_31_24 := (vm_bs 25 (fs_aload_n (i := 0) rfl) rfl (vm_bs 26 (fs_iconst rfl ci_1) rfl (vm_bs 28 (fs_bipush rfl ci_20) rfl (vm_bs 31 (fs_inv rfl (Or.inl ⟨rfl, rfl⟩) rfl rfl rfl) rfl (vm_bs 32 (fs_istore_n (i := 2) rfl rfl) rfl (vm_bs 33 (fs_aload_n (i := 0) rfl) rfl (vm_bs 34 (fs_iload_n (i := 2) rfl) rfl (vm_bs 37 (fs_inv rfl (Or.inl ⟨rfl, rfl⟩) rfl rfl rfl) rfl (vm_bs 38 (fs_aload_n (i := 0) rfl) rfl (vm_bs 39 (fs_iconst rfl ci_1) rfl (vm_bs 40 (fs_iconst rfl ci_0) rfl (vm_bs 43 (fs_inv rfl (Or.inl ⟨rfl, rfl⟩) rfl rfl rfl) rfl (vm_bs 44 (fs_istore_n (i := 3) rfl rfl) rfl (vm_bs 45 (fs_aload_n (i := 0) rfl) rfl (vm_bs 48 (fs_getfield rfl) rfl (vm_bs 49 (fs_iload_n (i := 2) rfl) rfl (vm_bs 50 (fs_iload_n (i := 3) rfl) rfl (vm_bs 51 (fs_iload_n (i := 1) rfl) rfl (vm_bs 54 (fs_inv rfl (Or.inl ⟨rfl, rfl⟩) rfl rfl rfl) rfl vm_bf)))))))))))))))))))
noncomputable def bt_31 : vm_T := [[(0, (.inr (5, bk_31_0))), (11, (.inr (6, bk_31_11)))], [(23, (.inl fr_void)), (24, (.inr (19, bk_31_24)))], [], [(54, (.inl fr_void))]]
theorem bq_31 : ∀ mm, pm_m 31 = some mm → vm_tok mm bt_31 := fun mm h => by
  cases h
  exact (ft_c (fl_c (fy_blk bo_31_0 rfl) (fl_c (fy_blk bo_31_11 rfl) fl_n)) (ft_c (fl_c (fr_void_ok rfl rfl) (fl_c (fy_blk bo_31_24 rfl) fl_n)) (ft_c fl_n (ft_c (fl_c (fr_void_ok rfl rfl) fl_n) ft_n))))
noncomputable def bk_32_0 : vm_G := fun ba k => fq_lda 0 (fq_getf 4 3 (fq_lda 0 (fq_getf 4 7 (fq_slow m_32 (.arraylength, 0, 0, 0) 8 9 ba (fq_ic fm_ge 52 12 k)))))
theorem bo_32_0 : vm_bok m_32 0 6 bk_32_0 := (vm_bs 1 (fs_aload_n (i := 0) rfl) rfl (vm_bs 4 (fs_getfield rfl) rfl (vm_bs 5 (fs_aload_n (i := 0) rfl) rfl (vm_bs 8 (fs_getfield rfl) rfl (vm_bs 9 (fs_slow rfl) rfl (vm_be (fj_icmp rfl rfl)))))))
noncomputable def bk_32_12 : vm_G := fun ba k => fq_lda 0 (fq_getf 4 7 (fq_lda 0 (fq_getf 4 3 (fq_ldi 1 (fq_iast (fq_lda 0 (fq_getf 4 8 (fq_lda 0 (fq_getf 4 3 (fq_ldi 2 (fq_iast (fq_lda 0 (fq_getf 4 9 (fq_lda 0 (fq_getf 4 3 (fq_ldi 3 (fq_iast (fq_lda 0 (fq_dup (fq_getf 4 3 (fq_cst (.inl (.ofNat 1, .ofNat 1)) (fq_bi fm_add (fq_putf 4 3 .int (k 52))))))))))))))))))))))))
theorem bo_32_12 : vm_bok m_32 12 24 bk_32_12 := (vm_bs 13 (fs_aload_n (i := 0) rfl) rfl (vm_bs 16 (fs_getfield rfl) rfl (vm_bs 17 (fs_aload_n (i := 0) rfl) rfl (vm_bs 20 (fs_getfield rfl) rfl (vm_bs 21 (fs_iload_n (i := 1) rfl) rfl (vm_bs 22 (fs_iastore rfl) rfl (vm_bs 23 (fs_aload_n (i := 0) rfl) rfl (vm_bs 26 (fs_getfield rfl) rfl (vm_bs 27 (fs_aload_n (i := 0) rfl) rfl (vm_bs 30 (fs_getfield rfl) rfl (vm_bs 31 (fs_iload_n (i := 2) rfl) rfl (vm_bs 32 (fs_iastore rfl) rfl (vm_bs 33 (fs_aload_n (i := 0) rfl) rfl (vm_bs 36 (fs_getfield rfl) rfl (vm_bs 37 (fs_aload_n (i := 0) rfl) rfl (vm_bs 40 (fs_getfield rfl) rfl (vm_bs 41 (fs_iload_n (i := 3) rfl) rfl (vm_bs 42 (fs_iastore rfl) rfl (vm_bs 43 (fs_aload_n (i := 0) rfl) rfl (vm_bs 44 (fs_dup rfl) rfl (vm_bs 47 (fs_getfield rfl) rfl (vm_bs 48 (fs_iconst rfl ci_3) rfl (vm_bs 49 (fs_iadd rfl) rfl (vm_bs 52 (fs_putfield rfl rfl) rfl vm_bf))))))))))))))))))))))))
noncomputable def bt_32 : vm_T := [[(0, (.inr (6, bk_32_0))), (12, (.inr (24, bk_32_12)))], [], [], [(52, (.inl fr_void))]]
theorem bq_32 : ∀ mm, pm_m 32 = some mm → vm_tok mm bt_32 := fun mm h => by
  cases h
  exact (ft_c (fl_c (fy_blk bo_32_0 rfl) (fl_c (fy_blk bo_32_12 rfl) fl_n)) (ft_c fl_n (ft_c fl_n (ft_c (fl_c (fr_void_ok rfl rfl) fl_n) ft_n))))
noncomputable def bk_33_0 : vm_G := fun ba k => fq_lda 0 (fq_lda 0 (fq_getf 3 6 (fq_call 23 2 (some 3) 0 0 ba (fq_lda 0 (fq_cst (.inl (.ofNat 1, .ofNat 1)) (fq_putf 3 6 .boolean (fq_cst (.inl (.ofNat 1, .ofNat 1)) (fq_sti 1 (k 15)))))))))
theorem bo_33_0 : vm_bok m_33 0 9 bk_33_0 := (vm_bs 1 (fs_aload_n (i := 0) rfl) rfl (vm_bs 2 (fs_aload_n (i := 0) rfl) rfl (vm_bs 5 (fs_getfield rfl) rfl (vm_bs 8 (fs_inv rfl (Or.inl ⟨rfl, rfl⟩) rfl rfl rfl) rfl (vm_bs 9 (fs_aload_n (i := 0) rfl) rfl (vm_bs 10 (fs_iconst rfl ci_3) rfl (vm_bs 13 (fs_putfield rfl rfl) rfl (vm_bs 14 (fs_iconst rfl ci_3) rfl (vm_bs 15 (fs_istore_n (i := 1) rfl rfl) rfl vm_bf)))))))))
noncomputable def bk_33_15 : vm_G := fun ba k => fq_ldi 1 (fq_cst (.inl (.ofNat 4, .ofNat 4)) (fq_ic fm_gt 42 20 k))
theorem bo_33_15 : vm_bok m_33 15 3 bk_33_15 := (vm_bs 16 (fs_iload_n (i := 1) rfl) rfl (vm_bs 17 (fs_iconst rfl ci_4) rfl (vm_be (fj_icmp rfl rfl))))
noncomputable def bk_33_20 : vm_G := fun ba k => fq_lda 0 (fq_getf 3 0 (fq_getf 4 11 (fq_ldi 1 (fq_lda 0 (fq_cst (.inl (.ofNat 0, .ofNat 0)) (fq_cst (.inl (.ofNat 9, .ofNat 9)) (fq_call 24 3 (some 3) 0 0 ba (fq_iast (fq_iinc 1 (.ofNat 1, .ofNat 1) (fq_goto 15 k))))))))))
theorem bo_33_20 : vm_bok m_33 20 11 bk_33_20 := (vm_bs 21 (fs_aload_n (i := 0) rfl) rfl (vm_bs 24 (fs_getfield rfl) rfl (vm_bs 27 (fs_getfield rfl) rfl (vm_bs 28 (fs_iload_n (i := 1) rfl) rfl (vm_bs 29 (fs_aload_n (i := 0) rfl) rfl (vm_bs 30 (fs_iconst rfl ci_1) rfl (vm_bs 32 (fs_bipush rfl ci_21) rfl (vm_bs 35 (fs_inv rfl (Or.inl ⟨rfl, rfl⟩) rfl rfl rfl) rfl (vm_bs 36 (fs_iastore rfl) rfl (vm_bs 39 (fs_iinc rfl ci_3 rfl) rfl (vm_be (fj_goto rfl))))))))))))
noncomputable def bt_33 : vm_T := [[(0, (.inr (9, bk_33_0))), (15, (.inr (3, bk_33_15)))], [(20, (.inr (11, bk_33_20)))], [(42, (.inl fr_void))]]
theorem bq_33 : ∀ mm, pm_m 33 = some mm → vm_tok mm bt_33 := fun mm h => by
  cases h
  exact (ft_c (fl_c (fy_blk bo_33_0 rfl) (fl_c (fy_blk bo_33_15 rfl) fl_n)) (ft_c (fl_c (fy_blk bo_33_20 rfl) fl_n) (ft_c (fl_c (fr_void_ok rfl rfl) fl_n) ft_n)))
noncomputable def bk_34_0 : vm_G := fun ba k => fq_lda 0 (fq_lda 0 (fq_getf 3 7 (fq_call 23 2 (some 3) 0 0 ba (fq_lda 0 (fq_cst (.inl (.ofNat 1, .ofNat 1)) (fq_putf 3 7 .boolean (fq_lda 0 (fq_getf 3 0 (fq_lda 0 (fq_cst (.inl (.ofNat 0, .ofNat 0)) (fq_cst (.inl (.ofNat 4, .ofNat 4)) (fq_call 24 3 (some 3) 0 0 ba (fq_putf 4 4 .int (k 26))))))))))))))
theorem bo_34_0 : vm_bok m_34 0 14 bk_34_0 := (vm_bs 1 (fs_aload_n (i := 0) rfl) rfl (vm_bs 2 (fs_aload_n (i := 0) rfl) rfl (vm_bs 5 (fs_getfield rfl) rfl (vm_bs 8 (fs_inv rfl (Or.inl ⟨rfl, rfl⟩) rfl rfl rfl) rfl (vm_bs 9 (fs_aload_n (i := 0) rfl) rfl (vm_bs 10 (fs_iconst rfl ci_3) rfl (vm_bs 13 (fs_putfield rfl rfl) rfl (vm_bs 14 (fs_aload_n (i := 0) rfl) rfl (vm_bs 17 (fs_getfield rfl) rfl (vm_bs 18 (fs_aload_n (i := 0) rfl) rfl (vm_bs 19 (fs_iconst rfl ci_1) rfl (vm_bs 20 (fs_iconst rfl ci_4) rfl (vm_bs 23 (fs_inv rfl (Or.inl ⟨rfl, rfl⟩) rfl rfl rfl) rfl (vm_bs 26 (fs_putfield rfl rfl) rfl vm_bf))))))))))))))
noncomputable def bt_34 : vm_T := [[(0, (.inr (14, bk_34_0)))], [(26, (.inl fr_void))]]
theorem bq_34 : ∀ mm, pm_m 34 = some mm → vm_tok mm bt_34 := fun mm h => by
  cases h
  exact (ft_c (fl_c (fy_blk bo_34_0 rfl) fl_n) (ft_c (fl_c (fr_void_ok rfl rfl) fl_n) ft_n))
noncomputable def bk_35_0 : vm_G := fun ba k => fq_lda 0 (fq_cst (.inl (.ofNat 0, .ofNat 0)) (fq_cst (.inl (.ofNat 4, .ofNat 4)) (fq_call 24 3 (some 3) 0 0 ba (fq_sti 1 (fq_lda 0 (fq_getf 3 2 (fq_if fm_ne 40 14 k)))))))
theorem bo_35_0 : vm_bok m_35 0 8 bk_35_0 := (vm_bs 1 (fs_aload_n (i := 0) rfl) rfl (vm_bs 2 (fs_iconst rfl ci_1) rfl (vm_bs 3 (fs_iconst rfl ci_4) rfl (vm_bs 6 (fs_inv rfl (Or.inl ⟨rfl, rfl⟩) rfl rfl rfl) rfl (vm_bs 7 (fs_istore_n (i := 1) rfl rfl) rfl (vm_bs 8 (fs_aload_n (i := 0) rfl) rfl (vm_bs 11 (fs_getfield rfl) rfl (vm_be (fj_if rfl rfl)))))))))
noncomputable def bk_35_14 : vm_G := fun ba k => fq_lda 0 (fq_getf 3 0 (fq_getf 4 10 (fq_ldi 1 (fq_iald (fq_cst (.inl (.negSucc 3, .negSucc 3)) (fq_ic fm_eq 40 28 k))))))
theorem bo_35_14 : vm_bok m_35 14 7 bk_35_14 := (vm_bs 15 (fs_aload_n (i := 0) rfl) rfl (vm_bs 18 (fs_getfield rfl) rfl (vm_bs 21 (fs_getfield rfl) rfl (vm_bs 22 (fs_iload_n (i := 1) rfl) rfl (vm_bs 23 (fs_iaload rfl) rfl (vm_bs 25 (fs_bipush rfl ci_2) rfl (vm_be (fj_icmp rfl rfl))))))))
noncomputable def bk_35_28 : vm_G := fun ba k => fq_lda 0 (fq_cst (.inl (.ofNat 4, .ofNat 4)) (fq_lda 0 (fq_getf 3 4 (fq_getf 2 3 (fq_call 20 3 (some 3) 0 0 ba (k 40))))))
theorem bo_35_28 : vm_bok m_35 28 6 bk_35_28 := (vm_bs 29 (fs_aload_n (i := 0) rfl) rfl (vm_bs 30 (fs_iconst rfl ci_4) rfl (vm_bs 31 (fs_aload_n (i := 0) rfl) rfl (vm_bs 34 (fs_getfield rfl) rfl (vm_bs 37 (fs_getfield rfl) rfl (vm_bs 40 (fs_inv rfl (Or.inl ⟨rfl, rfl⟩) rfl rfl rfl) rfl vm_bf))))))
noncomputable def bk_35_40 : vm_G := fun ba k => fq_lda 0 (fq_cst (.inl (.ofNat 0, .ofNat 0)) (fq_cst (.inl (.ofNat 24, .ofNat 24)) (fq_call 24 3 (some 3) 0 0 ba (fq_sti 2 (fq_lda 0 (fq_getf 3 2 (fq_if fm_ne 65 55 k)))))))
theorem bo_35_40 : vm_bok m_35 40 8 bk_35_40 := (vm_bs 41 (fs_aload_n (i := 0) rfl) rfl (vm_bs 42 (fs_iconst rfl ci_1) rfl (vm_bs 44 (fs_bipush rfl ci_20) rfl (vm_bs 47 (fs_inv rfl (Or.inl ⟨rfl, rfl⟩) rfl rfl rfl) rfl (vm_bs 48 (fs_istore_n (i := 2) rfl rfl) rfl (vm_bs 49 (fs_aload_n (i := 0) rfl) rfl (vm_bs 52 (fs_getfield rfl) rfl (vm_be (fj_if rfl rfl)))))))))
noncomputable def bk_35_55 : vm_G := fun ba k => fq_lda 0 (fq_getf 3 0 (fq_getf 4 10 (fq_ldi 1 (fq_ldi 2 (fq_iast (k 65))))))
theorem bo_35_55 : vm_bok m_35 55 6 bk_35_55 := (vm_bs 56 (fs_aload_n (i := 0) rfl) rfl (vm_bs 59 (fs_getfield rfl) rfl (vm_bs 62 (fs_getfield rfl) rfl (vm_bs 63 (fs_iload_n (i := 1) rfl) rfl (vm_bs 64 (fs_iload_n (i := 2) rfl) rfl (vm_bs 65 (fs_iastore rfl) rfl vm_bf))))))
noncomputable def bt_35 : vm_T := [[(0, (.inr (8, bk_35_0))), (14, (.inr (7, bk_35_14)))], [(28, (.inr (6, bk_35_28)))], [(40, (.inr (8, bk_35_40)))], [(55, (.inr (6, bk_35_55)))], [(65, (.inl fr_void))]]
theorem bq_35 : ∀ mm, pm_m 35 = some mm → vm_tok mm bt_35 := fun mm h => by
  cases h
  exact (ft_c (fl_c (fy_blk bo_35_0 rfl) (fl_c (fy_blk bo_35_14 rfl) fl_n)) (ft_c (fl_c (fy_blk bo_35_28 rfl) fl_n) (ft_c (fl_c (fy_blk bo_35_40 rfl) fl_n) (ft_c (fl_c (fy_blk bo_35_55 rfl) fl_n) (ft_c (fl_c (fr_void_ok rfl rfl) fl_n) ft_n)))))
noncomputable def bk_36_0 : vm_G := fun ba k => fq_lda 0 (fq_cst (.inl (.ofNat 3, .ofNat 3)) (fq_call 25 2 (some 3) 0 0 ba (fq_slow m_36 (.pop, 0, 0, 0) 5 6 ba (k 6))))
theorem bo_36_0 : vm_bok m_36 0 4 bk_36_0 := (vm_bs 1 (fs_aload_n (i := 0) rfl) rfl (vm_bs 2 (fs_iconst rfl ci_0) rfl (vm_bs 5 (fs_inv rfl (Or.inl ⟨rfl, rfl⟩) rfl rfl rfl) rfl (vm_bs 6 (fs_slow rfl) rfl vm_bf))))
noncomputable def bt_36 : vm_T := [[(0, (.inr (4, bk_36_0))), (6, (.inl fr_void))]]
theorem bq_36 : ∀ mm, pm_m 36 = some mm → vm_tok mm bt_36 := fun mm h => by
  cases h
  exact (ft_c (fl_c (fy_blk bo_36_0 rfl) (fl_c (fr_void_ok rfl rfl) fl_n)) ft_n)
noncomputable def bk_37_0 : vm_G := fun ba k => fq_cst (.inl (.ofNat 0, .ofNat 0)) (fq_sti 1 (k 2))
theorem bo_37_0 : vm_bok m_37 0 2 bk_37_0 := (vm_bs 1 (fs_iconst rfl ci_1) rfl (vm_bs 2 (fs_istore_n (i := 1) rfl rfl) rfl vm_bf))
noncomputable def bk_37_2 : vm_G := fun ba k => fq_ldi 1 (fq_lda 0 (fq_getf 3 0 (fq_getf 4 3 (fq_ic fm_ge 40 13 k))))
theorem bo_37_2 : vm_bok m_37 2 5 bk_37_2 := (vm_bs 3 (fs_iload_n (i := 1) rfl) rfl (vm_bs 4 (fs_aload_n (i := 0) rfl) rfl (vm_bs 7 (fs_getfield rfl) rfl (vm_bs 10 (fs_getfield rfl) rfl (vm_be (fj_icmp rfl rfl))))))
noncomputable def bk_37_13 : vm_G := fun ba k => fq_lda 0 (fq_getf 3 0 (fq_lda 0 (fq_getf 3 0 (fq_getf 4 7 (fq_ldi 1 (fq_iald (fq_call 38 2 (some 4) 0 0 ba (fq_if fm_ne 34 32 k))))))))
theorem bo_37_13 : vm_bok m_37 13 9 bk_37_13 := (vm_bs 14 (fs_aload_n (i := 0) rfl) rfl (vm_bs 17 (fs_getfield rfl) rfl (vm_bs 18 (fs_aload_n (i := 0) rfl) rfl (vm_bs 21 (fs_getfield rfl) rfl (vm_bs 24 (fs_getfield rfl) rfl (vm_bs 25 (fs_iload_n (i := 1) rfl) rfl (vm_bs 26 (fs_iaload rfl) rfl (vm_bs 29 (fs_inv rfl (Or.inl ⟨rfl, rfl⟩) rfl rfl rfl) rfl (vm_be (fj_if rfl rfl))))))))))
noncomputable def bk_37_32 : vm_G := fun ba k => fq_cst (.inl (.ofNat 1, .ofNat 1)) (k 33)
theorem bo_37_32 : vm_bok m_37 32 1 bk_37_32 := (vm_bs 33 (fs_iconst rfl ci_3) rfl vm_bf)
noncomputable def bk_37_34 : vm_G := fun ba k => fq_iinc 1 (.ofNat 1, .ofNat 1) (fq_goto 2 k)
theorem bo_37_34 : vm_bok m_37 34 2 bk_37_34 := (vm_bs 37 (fs_iinc rfl ci_3 rfl) rfl (vm_be (fj_goto rfl)))
noncomputable def bk_37_40 : vm_G := fun ba k => fq_cst (.inl (.ofNat 0, .ofNat 0)) (fq_sti 1 (k 42))
theorem bo_37_40 : vm_bok m_37 40 2 bk_37_40 := (vm_bs 41 (fs_iconst rfl ci_1) rfl (vm_bs 42 (fs_istore_n (i := 1) rfl rfl) rfl vm_bf))
noncomputable def bk_37_42 : vm_G := fun ba k => fq_ldi 1 (fq_cst (.inl (.ofNat 5, .ofNat 5)) (fq_ic fm_ge 99 47 k))
theorem bo_37_42 : vm_bok m_37 42 3 bk_37_42 := (vm_bs 43 (fs_iload_n (i := 1) rfl) rfl (vm_bs 44 (fs_iconst rfl ci_5) rfl (vm_be (fj_icmp rfl rfl))))
noncomputable def bk_37_47 : vm_G := fun ba k => fq_lda 0 (fq_getf 3 0 (fq_getf 4 10 (fq_ldi 1 (fq_iald (fq_cst (.inl (.negSucc 3, .negSucc 3)) (fq_ic fm_eq 93 61 k))))))
theorem bo_37_47 : vm_bok m_37 47 7 bk_37_47 := (vm_bs 48 (fs_aload_n (i := 0) rfl) rfl (vm_bs 51 (fs_getfield rfl) rfl (vm_bs 54 (fs_getfield rfl) rfl (vm_bs 55 (fs_iload_n (i := 1) rfl) rfl (vm_bs 56 (fs_iaload rfl) rfl (vm_bs 58 (fs_bipush rfl ci_2) rfl (vm_be (fj_icmp rfl rfl))))))))
noncomputable def bk_37_61 : vm_G := fun ba k => fq_lda 0 (fq_getf 3 0 (fq_ldi 1 (fq_call 40 2 (some 4) 0 0 ba (fq_if fm_eq 91 72 k))))
theorem bo_37_61 : vm_bok m_37 61 5 bk_37_61 := (vm_bs 62 (fs_aload_n (i := 0) rfl) rfl (vm_bs 65 (fs_getfield rfl) rfl (vm_bs 66 (fs_iload_n (i := 1) rfl) rfl (vm_bs 69 (fs_inv rfl (Or.inl ⟨rfl, rfl⟩) rfl rfl rfl) rfl (vm_be (fj_if rfl rfl))))))
noncomputable def bk_37_72 : vm_G := fun ba k => fq_lda 0 (fq_getf 3 0 (fq_lda 0 (fq_getf 3 0 (fq_getf 4 10 (fq_ldi 1 (fq_iald (fq_call 38 2 (some 4) 0 0 ba (fq_if fm_ne 93 91 k))))))))
theorem bo_37_72 : vm_bok m_37 72 9 bk_37_72 := (vm_bs 73 (fs_aload_n (i := 0) rfl) rfl (vm_bs 76 (fs_getfield rfl) rfl (vm_bs 77 (fs_aload_n (i := 0) rfl) rfl (vm_bs 80 (fs_getfield rfl) rfl (vm_bs 83 (fs_getfield rfl) rfl (vm_bs 84 (fs_iload_n (i := 1) rfl) rfl (vm_bs 85 (fs_iaload rfl) rfl (vm_bs 88 (fs_inv rfl (Or.inl ⟨rfl, rfl⟩) rfl rfl rfl) rfl (vm_be (fj_if rfl rfl))))))))))
noncomputable def bk_37_91 : vm_G := fun ba k => fq_cst (.inl (.ofNat 1, .ofNat 1)) (k 92)
theorem bo_37_91 : vm_bok m_37 91 1 bk_37_91 := (vm_bs 92 (fs_iconst rfl ci_3) rfl vm_bf)
noncomputable def bk_37_93 : vm_G := fun ba k => fq_iinc 1 (.ofNat 1, .ofNat 1) (fq_goto 42 k)
theorem bo_37_93 : vm_bok m_37 93 2 bk_37_93 := (vm_bs 96 (fs_iinc rfl ci_3 rfl) rfl (vm_be (fj_goto rfl)))
noncomputable def bk_37_99 : vm_G := fun ba k => fq_lda 0 (fq_getf 3 0 (fq_getf 4 2 (fq_lda 0 (fq_getf 3 0 (fq_call 39 1 (some 4) 0 0 ba (fq_slow m_37 (.ishr, 0, 0, 0) 113 114 ba (fq_if fm_eq 121 117 k)))))))
theorem bo_37_99 : vm_bok m_37 99 8 bk_37_99 := (vm_bs 100 (fs_aload_n (i := 0) rfl) rfl (vm_bs 103 (fs_getfield rfl) rfl (vm_bs 106 (fs_getfield rfl) rfl (vm_bs 107 (fs_aload_n (i := 0) rfl) rfl (vm_bs 110 (fs_getfield rfl) rfl (vm_bs 113 (fs_inv rfl (Or.inl ⟨rfl, rfl⟩) rfl rfl rfl) rfl (vm_bs 114 (fs_slow rfl) rfl (vm_be (fj_if rfl rfl)))))))))
noncomputable def bk_37_117 : vm_G := fun ba k => fq_cst (.inl (.ofNat 1, .ofNat 1)) (fq_goto 122 k)
theorem bo_37_117 : vm_bok m_37 117 2 bk_37_117 := (vm_bs 118 (fs_iconst rfl ci_3) rfl (vm_be (fj_goto rfl)))
noncomputable def bk_37_121 : vm_G := fun ba k => fq_cst (.inl (.ofNat 0, .ofNat 0)) (k 122)
theorem bo_37_121 : vm_bok m_37 121 1 bk_37_121 := (vm_bs 122 (fs_iconst rfl ci_1) rfl vm_bf)
noncomputable def bt_37 : vm_T := [[(0, (.inr (2, bk_37_0))), (2, (.inr (5, bk_37_2))), (13, (.inr (9, bk_37_13)))], [], [(32, (.inr (1, bk_37_32))), (33, (.inl (fr_int .boolean))), (34, (.inr (2, bk_37_34))), (40, (.inr (2, bk_37_40))), (42, (.inr (3, bk_37_42))), (47, (.inr (7, bk_37_47)))], [(61, (.inr (5, bk_37_61)))], [(72, (.inr (9, bk_37_72)))], [(91, (.inr (1, bk_37_91))), (92, (.inl (fr_int .boolean))), (93, (.inr (2, bk_37_93)))], [(99, (.inr (8, bk_37_99)))], [(117, (.inr (2, bk_37_117))), (121, (.inr (1, bk_37_121))), (122, (.inl (fr_int .boolean)))]]
theorem bq_37 : ∀ mm, pm_m 37 = some mm → vm_tok mm bt_37 := fun mm h => by
  cases h
  exact (ft_c (fl_c (fy_blk bo_37_0 rfl) (fl_c (fy_blk bo_37_2 rfl) (fl_c (fy_blk bo_37_13 rfl) fl_n))) (ft_c fl_n (ft_c (fl_c (fy_blk bo_37_32 rfl) (fl_c (fr_int_ok rfl rfl) (fl_c (fy_blk bo_37_34 rfl) (fl_c (fy_blk bo_37_40 rfl) (fl_c (fy_blk bo_37_42 rfl) (fl_c (fy_blk bo_37_47 rfl) fl_n)))))) (ft_c (fl_c (fy_blk bo_37_61 rfl) fl_n) (ft_c (fl_c (fy_blk bo_37_72 rfl) fl_n) (ft_c (fl_c (fy_blk bo_37_91 rfl) (fl_c (fr_int_ok rfl rfl) (fl_c (fy_blk bo_37_93 rfl) fl_n))) (ft_c (fl_c (fy_blk bo_37_99 rfl) fl_n) (ft_c (fl_c (fy_blk bo_37_117 rfl) (fl_c (fy_blk bo_37_121 rfl) (fl_c (fr_int_ok rfl rfl) fl_n))) ft_n))))))))
noncomputable def bk_38_0 : vm_G := fun ba k => fq_ldi 1 (fq_if fm_lt 16 4 k)
theorem bo_38_0 : vm_bok m_38 0 2 bk_38_0 := (vm_bs 1 (fs_iload_n (i := 1) rfl) rfl (vm_be (fj_if rfl rfl)))
noncomputable def bk_38_4 : vm_G := fun ba k => fq_ldi 1 (fq_lda 0 (fq_call 39 1 (some 4) 0 0 ba (fq_ic fm_ge 16 12 k)))
theorem bo_38_4 : vm_bok m_38 4 4 bk_38_4 := (vm_bs 5 (fs_iload_n (i := 1) rfl) rfl (vm_bs 6 (fs_aload_n (i := 0) rfl) rfl (vm_bs 9 (fs_inv rfl (Or.inl ⟨rfl, rfl⟩) rfl rfl rfl) rfl (vm_be (fj_icmp rfl rfl)))))
noncomputable def bk_38_12 : vm_G := fun ba k => fq_cst (.inl (.ofNat 1, .ofNat 1)) (fq_goto 17 k)
theorem bo_38_12 : vm_bok m_38 12 2 bk_38_12 := (vm_bs 13 (fs_iconst rfl ci_3) rfl (vm_be (fj_goto rfl)))
noncomputable def bk_38_16 : vm_G := fun ba k => fq_cst (.inl (.ofNat 0, .ofNat 0)) (k 17)
theorem bo_38_16 : vm_bok m_38 16 1 bk_38_16 := (vm_bs 17 (fs_iconst rfl ci_1) rfl vm_bf)
noncomputable def bt_38 : vm_T := [[(0, (.inr (2, bk_38_0))), (4, (.inr (4, bk_38_4))), (12, (.inr (2, bk_38_12)))], [(16, (.inr (1, bk_38_16))), (17, (.inl (fr_int .boolean)))]]
theorem bq_38 : ∀ mm, pm_m 38 = some mm → vm_tok mm bt_38 := fun mm h => by
  cases h
  exact (ft_c (fl_c (fy_blk bo_38_0 rfl) (fl_c (fy_blk bo_38_4 rfl) (fl_c (fy_blk bo_38_12 rfl) fl_n))) (ft_c (fl_c (fy_blk bo_38_16 rfl) (fl_c (fr_int_ok rfl rfl) fl_n)) ft_n))
noncomputable def bk_39_0 : vm_G := fun ba k => fq_lda 0 (fq_getf 4 0 (fq_lda 0 (fq_getf 4 1 (fq_bi am_mul (k 9)))))
theorem bo_39_0 : vm_bok m_39 0 5 bk_39_0 := (vm_bs 1 (fs_aload_n (i := 0) rfl) rfl (vm_bs 4 (fs_getfield rfl) rfl (vm_bs 5 (fs_aload_n (i := 0) rfl) rfl (vm_bs 8 (fs_getfield rfl) rfl (vm_bs 9 (fs_imul rfl) rfl vm_bf)))))
noncomputable def bt_39 : vm_T := [[(0, (.inr (5, bk_39_0))), (9, (.inl (fr_int .int)))]]
theorem bq_39 : ∀ mm, pm_m 39 = some mm → vm_tok mm bt_39 := fun mm h => by
  cases h
  exact (ft_c (fl_c (fy_blk bo_39_0 rfl) (fl_c (fr_int_ok rfl rfl) fl_n)) ft_n)
noncomputable def bk_40_0 : vm_G := fun ba k => fq_ldi 1 (fq_if fm_lt 16 4 k)
theorem bo_40_0 : vm_bok m_40 0 2 bk_40_0 := (vm_bs 1 (fs_iload_n (i := 1) rfl) rfl (vm_be (fj_if rfl rfl)))
noncomputable def bk_40_4 : vm_G := fun ba k => fq_ldi 1 (fq_lda 0 (fq_getf 4 3 (fq_ic fm_ge 16 12 k)))
theorem bo_40_4 : vm_bok m_40 4 4 bk_40_4 := (vm_bs 5 (fs_iload_n (i := 1) rfl) rfl (vm_bs 6 (fs_aload_n (i := 0) rfl) rfl (vm_bs 9 (fs_getfield rfl) rfl (vm_be (fj_icmp rfl rfl)))))
noncomputable def bk_40_12 : vm_G := fun ba k => fq_cst (.inl (.ofNat 1, .ofNat 1)) (fq_goto 17 k)
theorem bo_40_12 : vm_bok m_40 12 2 bk_40_12 := (vm_bs 13 (fs_iconst rfl ci_3) rfl (vm_be (fj_goto rfl)))
noncomputable def bk_40_16 : vm_G := fun ba k => fq_cst (.inl (.ofNat 0, .ofNat 0)) (k 17)
theorem bo_40_16 : vm_bok m_40 16 1 bk_40_16 := (vm_bs 17 (fs_iconst rfl ci_1) rfl vm_bf)
noncomputable def bt_40 : vm_T := [[(0, (.inr (2, bk_40_0))), (4, (.inr (4, bk_40_4))), (12, (.inr (2, bk_40_12)))], [(16, (.inr (1, bk_40_16))), (17, (.inl (fr_int .boolean)))]]
theorem bq_40 : ∀ mm, pm_m 40 = some mm → vm_tok mm bt_40 := fun mm h => by
  cases h
  exact (ft_c (fl_c (fy_blk bo_40_0 rfl) (fl_c (fy_blk bo_40_4 rfl) (fl_c (fy_blk bo_40_12 rfl) fl_n))) (ft_c (fl_c (fy_blk bo_40_16 rfl) (fl_c (fr_int_ok rfl rfl) fl_n)) ft_n))
noncomputable def bk_41_0 : vm_G := fun ba k => fq_lda 0 (fq_lda 1 (fq_getf 4 0 (fq_putf 4 0 .int (fq_lda 0 (fq_lda 1 (fq_getf 4 1 (fq_putf 4 1 .int (fq_lda 0 (fq_lda 1 (fq_getf 4 2 (fq_putf 4 2 .int (fq_lda 0 (fq_lda 1 (fq_getf 4 3 (fq_putf 4 3 .int (fq_lda 0 (fq_lda 1 (fq_getf 4 4 (fq_putf 4 4 .int (fq_lda 0 (fq_lda 1 (fq_getf 4 5 (fq_putf 4 5 .int (fq_lda 0 (fq_lda 1 (fq_getf 4 6 (fq_putf 4 6 .int (fq_lda 0 (fq_lda 1 (fq_call 42 2 (some 4) 0 0 ba (fq_lda 1 (fq_getf 4 9 (fq_cst (.inl (.ofNat 0, .ofNat 0)) (fq_lda 0 (fq_getf 4 9 (fq_cst (.inl (.ofNat 0, .ofNat 0)) (fq_lda 0 (fq_getf 4 9 (fq_slow m_41 (.arraylength, 0, 0, 0) 75 76 ba (fq_slow m_41 (.invokestatic 68, 0, 8, 0) 76 79 ba (fq_lda 1 (fq_getf 4 10 (fq_cst (.inl (.ofNat 0, .ofNat 0)) (fq_lda 0 (fq_getf 4 10 (fq_cst (.inl (.ofNat 0, .ofNat 0)) (fq_lda 0 (fq_getf 4 10 (fq_slow m_41 (.arraylength, 0, 0, 0) 93 94 ba (k 94))))))))))))))))))))))))))))))))))))))))))))))))))
theorem bo_41_0 : vm_bok m_41 0 50 bk_41_0 := (vm_bs 1 (fs_aload_n (i := 0) rfl) rfl (vm_bs 2 (fs_aload_n (i := 1) rfl) rfl (vm_bs 5 (fs_getfield rfl) rfl (vm_bs 8 (fs_putfield rfl rfl) rfl (vm_bs 9 (fs_aload_n (i := 0) rfl) rfl (vm_bs 10 (fs_aload_n (i := 1) rfl) rfl (vm_bs 13 (fs_getfield rfl) rfl (vm_bs 16 (fs_putfield rfl rfl) rfl (vm_bs 17 (fs_aload_n (i := 0) rfl) rfl (vm_bs 18 (fs_aload_n (i := 1) rfl) rfl (vm_bs 21 (fs_getfield rfl) rfl (vm_bs 24 (fs_putfield rfl rfl) rfl (vm_bs 25 (fs_aload_n (i := 0) rfl) rfl (vm_bs 26 (fs_aload_n (i := 1) rfl) rfl (vm_bs 29 (fs_getfield rfl) rfl (vm_bs 32 (fs_putfield rfl rfl) rfl (vm_bs 33 (fs_aload_n (i := 0) rfl) rfl (vm_bs 34 (fs_aload_n (i := 1) rfl) rfl (vm_bs 37 (fs_getfield rfl) rfl (vm_bs 40 (fs_putfield rfl rfl) rfl (vm_bs 41 (fs_aload_n (i := 0) rfl) rfl (vm_bs 42 (fs_aload_n (i := 1) rfl) rfl (vm_bs 45 (fs_getfield rfl) rfl (vm_bs 48 (fs_putfield rfl rfl) rfl (vm_bs 49 (fs_aload_n (i := 0) rfl) rfl (vm_bs 50 (fs_aload_n (i := 1) rfl) rfl (vm_bs 53 (fs_getfield rfl) rfl (vm_bs 56 (fs_putfield rfl rfl) rfl (vm_bs 57 (fs_aload_n (i := 0) rfl) rfl (vm_bs 58 (fs_aload_n (i := 1) rfl) rfl (vm_bs 61 (fs_inv rfl (Or.inl ⟨rfl, rfl⟩) rfl rfl rfl) rfl (vm_bs 62 (fs_aload_n (i := 1) rfl) rfl (vm_bs 65 (fs_getfield rfl) rfl (vm_bs 66 (fs_iconst rfl ci_1) rfl (vm_bs 67 (fs_aload_n (i := 0) rfl) rfl (vm_bs 70 (fs_getfield rfl) rfl (vm_bs 71 (fs_iconst rfl ci_1) rfl (vm_bs 72 (fs_aload_n (i := 0) rfl) rfl (vm_bs 75 (fs_getfield rfl) rfl (vm_bs 76 (fs_slow rfl) rfl (vm_bs 79 (fs_slow rfl) rfl (vm_bs 80 (fs_aload_n (i := 1) rfl) rfl (vm_bs 83 (fs_getfield rfl) rfl (vm_bs 84 (fs_iconst rfl ci_1) rfl (vm_bs 85 (fs_aload_n (i := 0) rfl) rfl (vm_bs 88 (fs_getfield rfl) rfl (vm_bs 89 (fs_iconst rfl ci_1) rfl (vm_bs 90 (fs_aload_n (i := 0) rfl) rfl (vm_bs 93 (fs_getfield rfl) rfl (vm_bs 94 (fs_slow rfl) rfl vm_bf))))))))))))))))))))))))))))))))))))))))))))))))))
noncomputable def bk_41_94 : vm_G := fun ba k => fq_slow m_41 (.invokestatic 68, 0, 8, 0) 94 97 ba (fq_lda 1 (fq_getf 4 11 (fq_cst (.inl (.ofNat 0, .ofNat 0)) (fq_lda 0 (fq_getf 4 11 (fq_cst (.inl (.ofNat 0, .ofNat 0)) (fq_lda 0 (fq_getf 4 11 (fq_slow m_41 (.arraylength, 0, 0, 0) 111 112 ba (fq_slow m_41 (.invokestatic 68, 0, 8, 0) 112 115 ba (fq_lda 1 (fq_getf 4 12 (fq_cst (.inl (.ofNat 0, .ofNat 0)) (fq_lda 0 (fq_getf 4 12 (fq_cst (.inl (.ofNat 0, .ofNat 0)) (fq_lda 0 (fq_getf 4 12 (fq_slow m_41 (.arraylength, 0, 0, 0) 129 130 ba (fq_slow m_41 (.invokestatic 68, 0, 8, 0) 130 133 ba (fq_lda 1 (fq_getf 4 13 (fq_cst (.inl (.ofNat 0, .ofNat 0)) (fq_lda 0 (fq_getf 4 13 (fq_cst (.inl (.ofNat 0, .ofNat 0)) (fq_lda 0 (fq_getf 4 13 (fq_slow m_41 (.arraylength, 0, 0, 0) 147 148 ba (fq_slow m_41 (.invokestatic 68, 0, 8, 0) 148 151 ba (k 151)))))))))))))))))))))))))))))))
theorem bo_41_94 : vm_bok m_41 94 31 bk_41_94 := (vm_bs 97 (fs_slow rfl) rfl (vm_bs 98 (fs_aload_n (i := 1) rfl) rfl (vm_bs 101 (fs_getfield rfl) rfl (vm_bs 102 (fs_iconst rfl ci_1) rfl (vm_bs 103 (fs_aload_n (i := 0) rfl) rfl (vm_bs 106 (fs_getfield rfl) rfl (vm_bs 107 (fs_iconst rfl ci_1) rfl (vm_bs 108 (fs_aload_n (i := 0) rfl) rfl (vm_bs 111 (fs_getfield rfl) rfl (vm_bs 112 (fs_slow rfl) rfl (vm_bs 115 (fs_slow rfl) rfl (vm_bs 116 (fs_aload_n (i := 1) rfl) rfl (vm_bs 119 (fs_getfield rfl) rfl (vm_bs 120 (fs_iconst rfl ci_1) rfl (vm_bs 121 (fs_aload_n (i := 0) rfl) rfl (vm_bs 124 (fs_getfield rfl) rfl (vm_bs 125 (fs_iconst rfl ci_1) rfl (vm_bs 126 (fs_aload_n (i := 0) rfl) rfl (vm_bs 129 (fs_getfield rfl) rfl (vm_bs 130 (fs_slow rfl) rfl (vm_bs 133 (fs_slow rfl) rfl (vm_bs 134 (fs_aload_n (i := 1) rfl) rfl (vm_bs 137 (fs_getfield rfl) rfl (vm_bs 138 (fs_iconst rfl ci_1) rfl (vm_bs 139 (fs_aload_n (i := 0) rfl) rfl (vm_bs 142 (fs_getfield rfl) rfl (vm_bs 143 (fs_iconst rfl ci_1) rfl (vm_bs 144 (fs_aload_n (i := 0) rfl) rfl (vm_bs 147 (fs_getfield rfl) rfl (vm_bs 148 (fs_slow rfl) rfl (vm_bs 151 (fs_slow rfl) rfl vm_bf)))))))))))))))))))))))))))))))
noncomputable def bt_41 : vm_T := [[(0, (.inr (50, bk_41_0)))], [], [], [], [], [(94, (.inr (31, bk_41_94)))], [], [], [], [(151, (.inl fr_void))]]
theorem bq_41 : ∀ mm, pm_m 41 = some mm → vm_tok mm bt_41 := fun mm h => by
  cases h
  exact (ft_c (fl_c (fy_blk bo_41_0 rfl) fl_n) (ft_c fl_n (ft_c fl_n (ft_c fl_n (ft_c fl_n (ft_c (fl_c (fy_blk bo_41_94 rfl) fl_n) (ft_c fl_n (ft_c fl_n (ft_c fl_n (ft_c (fl_c (fr_void_ok rfl rfl) fl_n) ft_n))))))))))
noncomputable def bk_42_0 : vm_G := fun ba k => fq_lda 1 (fq_getf 4 7 (fq_cst (.inl (.ofNat 0, .ofNat 0)) (fq_lda 0 (fq_getf 4 7 (fq_cst (.inl (.ofNat 0, .ofNat 0)) (fq_lda 0 (fq_getf 4 7 (fq_slow m_42 (.arraylength, 0, 0, 0) 14 15 ba (fq_slow m_42 (.invokestatic 68, 0, 8, 0) 15 18 ba (fq_lda 1 (fq_getf 4 8 (fq_cst (.inl (.ofNat 0, .ofNat 0)) (fq_lda 0 (fq_getf 4 8 (fq_cst (.inl (.ofNat 0, .ofNat 0)) (fq_lda 0 (fq_getf 4 8 (fq_slow m_42 (.arraylength, 0, 0, 0) 32 33 ba (fq_slow m_42 (.invokestatic 68, 0, 8, 0) 33 36 ba (k 36))))))))))))))))))))
theorem bo_42_0 : vm_bok m_42 0 20 bk_42_0 := (vm_bs 1 (fs_aload_n (i := 1) rfl) rfl (vm_bs 4 (fs_getfield rfl) rfl (vm_bs 5 (fs_iconst rfl ci_1) rfl (vm_bs 6 (fs_aload_n (i := 0) rfl) rfl (vm_bs 9 (fs_getfield rfl) rfl (vm_bs 10 (fs_iconst rfl ci_1) rfl (vm_bs 11 (fs_aload_n (i := 0) rfl) rfl (vm_bs 14 (fs_getfield rfl) rfl (vm_bs 15 (fs_slow rfl) rfl (vm_bs 18 (fs_slow rfl) rfl (vm_bs 19 (fs_aload_n (i := 1) rfl) rfl (vm_bs 22 (fs_getfield rfl) rfl (vm_bs 23 (fs_iconst rfl ci_1) rfl (vm_bs 24 (fs_aload_n (i := 0) rfl) rfl (vm_bs 27 (fs_getfield rfl) rfl (vm_bs 28 (fs_iconst rfl ci_1) rfl (vm_bs 29 (fs_aload_n (i := 0) rfl) rfl (vm_bs 32 (fs_getfield rfl) rfl (vm_bs 33 (fs_slow rfl) rfl (vm_bs 36 (fs_slow rfl) rfl vm_bf))))))))))))))))))))
noncomputable def bt_42 : vm_T := [[(0, (.inr (20, bk_42_0)))], [], [(36, (.inl fr_void))]]
theorem bq_42 : ∀ mm, pm_m 42 = some mm → vm_tok mm bt_42 := fun mm h => by
  cases h
  exact (ft_c (fl_c (fy_blk bo_42_0 rfl) fl_n) (ft_c fl_n (ft_c (fl_c (fr_void_ok rfl rfl) fl_n) ft_n)))
noncomputable def bk_43_0 : vm_G := fun ba k => fq_lda 0 (fq_getf 6 1 (fq_getf 3 2 (k 7)))
theorem bo_43_0 : vm_bok m_43 0 3 bk_43_0 := (vm_bs 1 (fs_aload_n (i := 0) rfl) rfl (vm_bs 4 (fs_getfield rfl) rfl (vm_bs 7 (fs_getfield rfl) rfl vm_bf)))
noncomputable def bt_43 : vm_T := [[(0, (.inr (3, bk_43_0))), (7, (.inl (fr_int .int)))]]
theorem bq_43 : ∀ mm, pm_m 43 = some mm → vm_tok mm bt_43 := fun mm h => by
  cases h
  exact (ft_c (fl_c (fy_blk bo_43_0 rfl) (fl_c (fr_int_ok rfl rfl) fl_n)) ft_n)
noncomputable def bk_44_0 : vm_G := fun ba k => fq_ldi 1 (fq_jslow m_44 (.tableswitch 87 0 5 #[39, 47, 55, 63, 71, 79], 0, 0, 0) 1 ba k)
theorem bo_44_0 : vm_bok m_44 0 2 bk_44_0 := (vm_bs 1 (fs_iload_n (i := 1) rfl) rfl (vm_be (fj_slow rfl)))
noncomputable def bk_44_40 : vm_G := fun ba k => fq_lda 0 (fq_getf 6 2 (fq_getf 4 0 (k 47)))
theorem bo_44_40 : vm_bok m_44 40 3 bk_44_40 := (vm_bs 41 (fs_aload_n (i := 0) rfl) rfl (vm_bs 44 (fs_getfield rfl) rfl (vm_bs 47 (fs_getfield rfl) rfl vm_bf)))
noncomputable def bk_44_48 : vm_G := fun ba k => fq_lda 0 (fq_getf 6 2 (fq_getf 4 1 (k 55)))
theorem bo_44_48 : vm_bok m_44 48 3 bk_44_48 := (vm_bs 49 (fs_aload_n (i := 0) rfl) rfl (vm_bs 52 (fs_getfield rfl) rfl (vm_bs 55 (fs_getfield rfl) rfl vm_bf)))
noncomputable def bk_44_56 : vm_G := fun ba k => fq_lda 0 (fq_getf 6 2 (fq_getf 4 2 (k 63)))
theorem bo_44_56 : vm_bok m_44 56 3 bk_44_56 := (vm_bs 57 (fs_aload_n (i := 0) rfl) rfl (vm_bs 60 (fs_getfield rfl) rfl (vm_bs 63 (fs_getfield rfl) rfl vm_bf)))
noncomputable def bk_44_64 : vm_G := fun ba k => fq_lda 0 (fq_getf 6 2 (fq_getf 4 3 (k 71)))
theorem bo_44_64 : vm_bok m_44 64 3 bk_44_64 := (vm_bs 65 (fs_aload_n (i := 0) rfl) rfl (vm_bs 68 (fs_getfield rfl) rfl (vm_bs 71 (fs_getfield rfl) rfl vm_bf)))
noncomputable def bk_44_72 : vm_G := fun ba k => fq_lda 0 (fq_getf 6 2 (fq_getf 4 4 (k 79)))
theorem bo_44_72 : vm_bok m_44 72 3 bk_44_72 := (vm_bs 73 (fs_aload_n (i := 0) rfl) rfl (vm_bs 76 (fs_getfield rfl) rfl (vm_bs 79 (fs_getfield rfl) rfl vm_bf)))
noncomputable def bk_44_80 : vm_G := fun ba k => fq_lda 0 (fq_getf 6 2 (fq_getf 4 5 (k 87)))
theorem bo_44_80 : vm_bok m_44 80 3 bk_44_80 := (vm_bs 81 (fs_aload_n (i := 0) rfl) rfl (vm_bs 84 (fs_getfield rfl) rfl (vm_bs 87 (fs_getfield rfl) rfl vm_bf)))
noncomputable def bk_44_88 : vm_G := fun ba k => fq_ldi 1 (fq_cst (.inl (.ofNat 10, .ofNat 10)) (fq_bi fm_sub (fq_sti 2 (fq_ldi 1 (fq_cst (.inl (.ofNat 10, .ofNat 10)) (fq_ic fm_le 116 99 k))))))
theorem bo_44_88 : vm_bok m_44 88 7 bk_44_88 := (vm_bs 89 (fs_iload_n (i := 1) rfl) rfl (vm_bs 91 (fs_bipush rfl ci_19) rfl (vm_bs 92 (fs_isub rfl) rfl (vm_bs 93 (fs_istore_n (i := 2) rfl rfl) rfl (vm_bs 94 (fs_iload_n (i := 1) rfl) rfl (vm_bs 96 (fs_bipush rfl ci_19) rfl (vm_be (fj_icmp rfl rfl))))))))
noncomputable def bk_44_99 : vm_G := fun ba k => fq_ldi 2 (fq_cst (.inl (.ofNat 4, .ofNat 4)) (fq_ic fm_gt 116 104 k))
theorem bo_44_99 : vm_bok m_44 99 3 bk_44_99 := (vm_bs 100 (fs_iload_n (i := 2) rfl) rfl (vm_bs 101 (fs_iconst rfl ci_4) rfl (vm_be (fj_icmp rfl rfl))))
noncomputable def bk_44_104 : vm_G := fun ba k => fq_lda 0 (fq_getf 6 2 (fq_getf 4 11 (fq_ldi 2 (fq_iald (fq_goto 117 k)))))
theorem bo_44_104 : vm_bok m_44 104 6 bk_44_104 := (vm_bs 105 (fs_aload_n (i := 0) rfl) rfl (vm_bs 108 (fs_getfield rfl) rfl (vm_bs 111 (fs_getfield rfl) rfl (vm_bs 112 (fs_iload_n (i := 2) rfl) rfl (vm_bs 113 (fs_iaload rfl) rfl (vm_be (fj_goto rfl)))))))
noncomputable def bk_44_116 : vm_G := fun ba k => fq_cst (.inl (.negSucc 0, .negSucc 0)) (k 117)
theorem bo_44_116 : vm_bok m_44 116 1 bk_44_116 := (vm_bs 117 (fs_iconst rfl ci_7) rfl vm_bf)
noncomputable def bt_44 : vm_T := [[(0, (.inr (2, bk_44_0)))], [], [(40, (.inr (3, bk_44_40))), (47, (.inl (fr_int .int)))], [(48, (.inr (3, bk_44_48))), (55, (.inl (fr_int .int))), (56, (.inr (3, bk_44_56))), (63, (.inl (fr_int .int)))], [(64, (.inr (3, bk_44_64))), (71, (.inl (fr_int .int))), (72, (.inr (3, bk_44_72))), (79, (.inl (fr_int .int)))], [(80, (.inr (3, bk_44_80))), (87, (.inl (fr_int .int))), (88, (.inr (7, bk_44_88)))], [(99, (.inr (3, bk_44_99))), (104, (.inr (6, bk_44_104)))], [(116, (.inr (1, bk_44_116))), (117, (.inl (fr_int .int)))]]
theorem bq_44 : ∀ mm, pm_m 44 = some mm → vm_tok mm bt_44 := fun mm h => by
  cases h
  exact (ft_c (fl_c (fy_blk bo_44_0 rfl) fl_n) (ft_c fl_n (ft_c (fl_c (fy_blk bo_44_40 rfl) (fl_c (fr_int_ok rfl rfl) fl_n)) (ft_c (fl_c (fy_blk bo_44_48 rfl) (fl_c (fr_int_ok rfl rfl) (fl_c (fy_blk bo_44_56 rfl) (fl_c (fr_int_ok rfl rfl) fl_n)))) (ft_c (fl_c (fy_blk bo_44_64 rfl) (fl_c (fr_int_ok rfl rfl) (fl_c (fy_blk bo_44_72 rfl) (fl_c (fr_int_ok rfl rfl) fl_n)))) (ft_c (fl_c (fy_blk bo_44_80 rfl) (fl_c (fr_int_ok rfl rfl) (fl_c (fy_blk bo_44_88 rfl) fl_n))) (ft_c (fl_c (fy_blk bo_44_99 rfl) (fl_c (fy_blk bo_44_104 rfl) fl_n)) (ft_c (fl_c (fy_blk bo_44_116 rfl) (fl_c (fr_int_ok rfl rfl) fl_n)) ft_n))))))))
noncomputable def bk_45_0 : vm_G := fun ba k => fq_lda 0 (fq_getf 6 2 (fq_ldi 1 (fq_call 40 2 (some 4) 0 0 ba (fq_if fm_ne 13 11 k))))
theorem bo_45_0 : vm_bok m_45 0 5 bk_45_0 := (vm_bs 1 (fs_aload_n (i := 0) rfl) rfl (vm_bs 4 (fs_getfield rfl) rfl (vm_bs 5 (fs_iload_n (i := 1) rfl) rfl (vm_bs 8 (fs_inv rfl (Or.inl ⟨rfl, rfl⟩) rfl rfl rfl) rfl (vm_be (fj_if rfl rfl))))))
noncomputable def bk_45_11 : vm_G := fun ba k => fq_cst (.inl (.negSucc 0, .negSucc 0)) (k 12)
theorem bo_45_11 : vm_bok m_45 11 1 bk_45_11 := (vm_bs 12 (fs_iconst rfl ci_7) rfl vm_bf)
noncomputable def bk_45_13 : vm_G := fun ba k => fq_ldi 2 (fq_jslow m_45 (.tableswitch 70 0 3 #[30, 40, 50, 60], 0, 0, 0) 14 ba k)
theorem bo_45_13 : vm_bok m_45 13 2 bk_45_13 := (vm_bs 14 (fs_iload_n (i := 2) rfl) rfl (vm_be (fj_slow rfl)))
noncomputable def bk_45_44 : vm_G := fun ba k => fq_lda 0 (fq_getf 6 2 (fq_getf 4 7 (fq_ldi 1 (fq_iald (k 53)))))
theorem bo_45_44 : vm_bok m_45 44 5 bk_45_44 := (vm_bs 45 (fs_aload_n (i := 0) rfl) rfl (vm_bs 48 (fs_getfield rfl) rfl (vm_bs 51 (fs_getfield rfl) rfl (vm_bs 52 (fs_iload_n (i := 1) rfl) rfl (vm_bs 53 (fs_iaload rfl) rfl vm_bf)))))
noncomputable def bk_45_54 : vm_G := fun ba k => fq_lda 0 (fq_getf 6 2 (fq_getf 4 8 (fq_ldi 1 (fq_iald (k 63)))))
theorem bo_45_54 : vm_bok m_45 54 5 bk_45_54 := (vm_bs 55 (fs_aload_n (i := 0) rfl) rfl (vm_bs 58 (fs_getfield rfl) rfl (vm_bs 61 (fs_getfield rfl) rfl (vm_bs 62 (fs_iload_n (i := 1) rfl) rfl (vm_bs 63 (fs_iaload rfl) rfl vm_bf)))))
noncomputable def bk_45_64 : vm_G := fun ba k => fq_lda 0 (fq_getf 6 2 (fq_getf 4 9 (fq_ldi 1 (fq_iald (k 73)))))
theorem bo_45_64 : vm_bok m_45 64 5 bk_45_64 := (vm_bs 65 (fs_aload_n (i := 0) rfl) rfl (vm_bs 68 (fs_getfield rfl) rfl (vm_bs 71 (fs_getfield rfl) rfl (vm_bs 72 (fs_iload_n (i := 1) rfl) rfl (vm_bs 73 (fs_iaload rfl) rfl vm_bf)))))
noncomputable def bk_45_74 : vm_G := fun ba k => fq_lda 0 (fq_getf 6 2 (fq_getf 4 10 (fq_ldi 1 (fq_iald (k 83)))))
theorem bo_45_74 : vm_bok m_45 74 5 bk_45_74 := (vm_bs 75 (fs_aload_n (i := 0) rfl) rfl (vm_bs 78 (fs_getfield rfl) rfl (vm_bs 81 (fs_getfield rfl) rfl (vm_bs 82 (fs_iload_n (i := 1) rfl) rfl (vm_bs 83 (fs_iaload rfl) rfl vm_bf)))))
noncomputable def bk_45_84 : vm_G := fun ba k => fq_cst (.inl (.negSucc 0, .negSucc 0)) (k 85)
theorem bo_45_84 : vm_bok m_45 84 1 bk_45_84 := (vm_bs 85 (fs_iconst rfl ci_7) rfl vm_bf)
noncomputable def bt_45 : vm_T := [[(0, (.inr (5, bk_45_0))), (11, (.inr (1, bk_45_11))), (12, (.inl (fr_int .int))), (13, (.inr (2, bk_45_13)))], [], [(44, (.inr (5, bk_45_44)))], [(53, (.inl (fr_int .int))), (54, (.inr (5, bk_45_54))), (63, (.inl (fr_int .int)))], [(64, (.inr (5, bk_45_64))), (73, (.inl (fr_int .int))), (74, (.inr (5, bk_45_74)))], [(83, (.inl (fr_int .int))), (84, (.inr (1, bk_45_84))), (85, (.inl (fr_int .int)))]]
theorem bq_45 : ∀ mm, pm_m 45 = some mm → vm_tok mm bt_45 := fun mm h => by
  cases h
  exact (ft_c (fl_c (fy_blk bo_45_0 rfl) (fl_c (fy_blk bo_45_11 rfl) (fl_c (fr_int_ok rfl rfl) (fl_c (fy_blk bo_45_13 rfl) fl_n)))) (ft_c fl_n (ft_c (fl_c (fy_blk bo_45_44 rfl) fl_n) (ft_c (fl_c (fr_int_ok rfl rfl) (fl_c (fy_blk bo_45_54 rfl) (fl_c (fr_int_ok rfl rfl) fl_n))) (ft_c (fl_c (fy_blk bo_45_64 rfl) (fl_c (fr_int_ok rfl rfl) (fl_c (fy_blk bo_45_74 rfl) fl_n))) (ft_c (fl_c (fr_int_ok rfl rfl) (fl_c (fy_blk bo_45_84 rfl) (fl_c (fr_int_ok rfl rfl) fl_n))) ft_n))))))
noncomputable def bk_46_0 : vm_G := fun ba k => fq_lda 0 (fq_getf 6 2 (fq_ldi 1 (fq_call 38 2 (some 4) 0 0 ba (fq_if fm_eq 22 11 k))))
theorem bo_46_0 : vm_bok m_46 0 5 bk_46_0 := (vm_bs 1 (fs_aload_n (i := 0) rfl) rfl (vm_bs 4 (fs_getfield rfl) rfl (vm_bs 5 (fs_iload_n (i := 1) rfl) rfl (vm_bs 8 (fs_inv rfl (Or.inl ⟨rfl, rfl⟩) rfl rfl rfl) rfl (vm_be (fj_if rfl rfl))))))
noncomputable def bk_46_11 : vm_G := fun ba k => fq_lda 0 (fq_getf 6 2 (fq_ldi 1 (fq_call 30 2 (some 4) 0 0 ba (fq_goto 23 k))))
theorem bo_46_11 : vm_bok m_46 11 5 bk_46_11 := (vm_bs 12 (fs_aload_n (i := 0) rfl) rfl (vm_bs 15 (fs_getfield rfl) rfl (vm_bs 16 (fs_iload_n (i := 1) rfl) rfl (vm_bs 19 (fs_inv rfl (Or.inl ⟨rfl, rfl⟩) rfl rfl rfl) rfl (vm_be (fj_goto rfl))))))
noncomputable def bk_46_22 : vm_G := fun ba k => fq_cst (.inl (.negSucc 0, .negSucc 0)) (k 23)
theorem bo_46_22 : vm_bok m_46 22 1 bk_46_22 := (vm_bs 23 (fs_iconst rfl ci_7) rfl vm_bf)
noncomputable def bt_46 : vm_T := [[(0, (.inr (5, bk_46_0))), (11, (.inr (5, bk_46_11)))], [(22, (.inr (1, bk_46_22))), (23, (.inl (fr_int .int)))]]
theorem bq_46 : ∀ mm, pm_m 46 = some mm → vm_tok mm bt_46 := fun mm h => by
  cases h
  exact (ft_c (fl_c (fy_blk bo_46_0 rfl) (fl_c (fy_blk bo_46_11 rfl) fl_n)) (ft_c (fl_c (fy_blk bo_46_22 rfl) (fl_c (fr_int_ok rfl rfl) fl_n)) ft_n))
noncomputable def bk_47_0 : vm_G := fun ba k => fq_lda 0 (fq_getf 6 2 (fq_ldi 1 (fq_call 40 2 (some 4) 0 0 ba (fq_if fm_eq 18 11 k))))
theorem bo_47_0 : vm_bok m_47 0 5 bk_47_0 := (vm_bs 1 (fs_aload_n (i := 0) rfl) rfl (vm_bs 4 (fs_getfield rfl) rfl (vm_bs 5 (fs_iload_n (i := 1) rfl) rfl (vm_bs 8 (fs_inv rfl (Or.inl ⟨rfl, rfl⟩) rfl rfl rfl) rfl (vm_be (fj_if rfl rfl))))))
noncomputable def bk_47_11 : vm_G := fun ba k => fq_ldi 2 (fq_call 48 1 none 0 0 ba (fq_if fm_ne 20 18 k))
theorem bo_47_11 : vm_bok m_47 11 3 bk_47_11 := (vm_bs 12 (fs_iload_n (i := 2) rfl) rfl (vm_bs 15 (fs_ins rfl rfl rfl (Or.inl rfl) rfl rfl rfl) rfl (vm_be (fj_if rfl rfl))))
noncomputable def bk_47_18 : vm_G := fun ba k => fq_cst (.inl (.negSucc 0, .negSucc 0)) (k 19)
theorem bo_47_18 : vm_bok m_47 18 1 bk_47_18 := (vm_bs 19 (fs_iconst rfl ci_7) rfl vm_bf)
noncomputable def bk_47_20 : vm_G := fun ba k => fq_lda 0 (fq_getf 6 2 (fq_getf 4 8 (fq_ldi 1 (fq_iald (fq_sti 3 (fq_lda 0 (fq_getf 6 2 (fq_getf 4 8 (fq_ldi 1 (fq_ldi 2 (fq_iast (fq_ldi 3 (k 41)))))))))))))
theorem bo_47_20 : vm_bok m_47 20 13 bk_47_20 := (vm_bs 21 (fs_aload_n (i := 0) rfl) rfl (vm_bs 24 (fs_getfield rfl) rfl (vm_bs 27 (fs_getfield rfl) rfl (vm_bs 28 (fs_iload_n (i := 1) rfl) rfl (vm_bs 29 (fs_iaload rfl) rfl (vm_bs 30 (fs_istore_n (i := 3) rfl rfl) rfl (vm_bs 31 (fs_aload_n (i := 0) rfl) rfl (vm_bs 34 (fs_getfield rfl) rfl (vm_bs 37 (fs_getfield rfl) rfl (vm_bs 38 (fs_iload_n (i := 1) rfl) rfl (vm_bs 39 (fs_iload_n (i := 2) rfl) rfl (vm_bs 40 (fs_iastore rfl) rfl (vm_bs 41 (fs_iload_n (i := 3) rfl) rfl vm_bf)))))))))))))
noncomputable def bt_47 : vm_T := [[(0, (.inr (5, bk_47_0))), (11, (.inr (3, bk_47_11)))], [(18, (.inr (1, bk_47_18))), (19, (.inl (fr_int .int))), (20, (.inr (13, bk_47_20)))], [(41, (.inl (fr_int .int)))]]
theorem bq_47 : ∀ mm, pm_m 47 = some mm → vm_tok mm bt_47 := fun mm h => by
  cases h
  exact (ft_c (fl_c (fy_blk bo_47_0 rfl) (fl_c (fy_blk bo_47_11 rfl) fl_n)) (ft_c (fl_c (fy_blk bo_47_18 rfl) (fl_c (fr_int_ok rfl rfl) (fl_c (fy_blk bo_47_20 rfl) fl_n))) (ft_c (fl_c (fr_int_ok rfl rfl) fl_n) ft_n)))
noncomputable def bk_48_0 : vm_G := fun ba k => fq_ldi 0 (fq_if fm_lt 13 4 k)
theorem bo_48_0 : vm_bok m_48 0 2 bk_48_0 := (vm_bs 1 (fs_iload_n (i := 0) rfl) rfl (vm_be (fj_if rfl rfl)))
noncomputable def bk_48_4 : vm_G := fun ba k => fq_ldi 0 (fq_cst (.inl (.ofNat 3, .ofNat 3)) (fq_ic fm_gt 13 9 k))
theorem bo_48_4 : vm_bok m_48 4 3 bk_48_4 := (vm_bs 5 (fs_iload_n (i := 0) rfl) rfl (vm_bs 6 (fs_iconst rfl ci_0) rfl (vm_be (fj_icmp rfl rfl))))
noncomputable def bk_48_9 : vm_G := fun ba k => fq_cst (.inl (.ofNat 1, .ofNat 1)) (fq_goto 14 k)
theorem bo_48_9 : vm_bok m_48 9 2 bk_48_9 := (vm_bs 10 (fs_iconst rfl ci_3) rfl (vm_be (fj_goto rfl)))
noncomputable def bk_48_13 : vm_G := fun ba k => fq_cst (.inl (.ofNat 0, .ofNat 0)) (k 14)
theorem bo_48_13 : vm_bok m_48 13 1 bk_48_13 := (vm_bs 14 (fs_iconst rfl ci_1) rfl vm_bf)
noncomputable def bt_48 : vm_T := [[(0, (.inr (2, bk_48_0))), (4, (.inr (3, bk_48_4))), (9, (.inr (2, bk_48_9))), (13, (.inr (1, bk_48_13))), (14, (.inl (fr_int .boolean)))]]
theorem bq_48 : ∀ mm, pm_m 48 = some mm → vm_tok mm bt_48 := fun mm h => by
  cases h
  exact (ft_c (fl_c (fy_blk bo_48_0 rfl) (fl_c (fy_blk bo_48_4 rfl) (fl_c (fy_blk bo_48_9 rfl) (fl_c (fy_blk bo_48_13 rfl) (fl_c (fr_int_ok rfl rfl) fl_n))))) ft_n)
noncomputable def bk_49_0 : vm_G := fun ba k => fq_lda 0 (fq_getf 6 2 (fq_ldi 1 (fq_call 40 2 (some 4) 0 0 ba (fq_if fm_eq 34 11 k))))
theorem bo_49_0 : vm_bok m_49 0 5 bk_49_0 := (vm_bs 1 (fs_aload_n (i := 0) rfl) rfl (vm_bs 4 (fs_getfield rfl) rfl (vm_bs 5 (fs_iload_n (i := 1) rfl) rfl (vm_bs 8 (fs_inv rfl (Or.inl ⟨rfl, rfl⟩) rfl rfl rfl) rfl (vm_be (fj_if rfl rfl))))))
noncomputable def bk_49_11 : vm_G := fun ba k => fq_lda 0 (fq_getf 6 2 (fq_ldi 2 (fq_call 38 2 (some 4) 0 0 ba (fq_if fm_eq 34 22 k))))
theorem bo_49_11 : vm_bok m_49 11 5 bk_49_11 := (vm_bs 12 (fs_aload_n (i := 0) rfl) rfl (vm_bs 15 (fs_getfield rfl) rfl (vm_bs 16 (fs_iload_n (i := 2) rfl) rfl (vm_bs 19 (fs_inv rfl (Or.inl ⟨rfl, rfl⟩) rfl rfl rfl) rfl (vm_be (fj_if rfl rfl))))))
noncomputable def bk_49_22 : vm_G := fun ba k => fq_lda 0 (fq_getf 6 2 (fq_ldi 1 (fq_ldi 2 (fq_call 50 3 (some 4) 0 0 ba (fq_if fm_ne 36 34 k)))))
theorem bo_49_22 : vm_bok m_49 22 6 bk_49_22 := (vm_bs 23 (fs_aload_n (i := 0) rfl) rfl (vm_bs 26 (fs_getfield rfl) rfl (vm_bs 27 (fs_iload_n (i := 1) rfl) rfl (vm_bs 28 (fs_iload_n (i := 2) rfl) rfl (vm_bs 31 (fs_inv rfl (Or.inl ⟨rfl, rfl⟩) rfl rfl rfl) rfl (vm_be (fj_if rfl rfl)))))))
noncomputable def bk_49_34 : vm_G := fun ba k => fq_cst (.inl (.negSucc 0, .negSucc 0)) (k 35)
theorem bo_49_34 : vm_bok m_49 34 1 bk_49_34 := (vm_bs 35 (fs_iconst rfl ci_7) rfl vm_bf)
noncomputable def bk_49_36 : vm_G := fun ba k => fq_lda 0 (fq_getf 6 2 (fq_getf 4 7 (fq_ldi 1 (fq_iald (fq_sti 3 (fq_lda 0 (fq_getf 6 2 (fq_getf 4 7 (fq_ldi 1 (fq_ldi 2 (fq_iast (fq_ldi 3 (k 57)))))))))))))
theorem bo_49_36 : vm_bok m_49 36 13 bk_49_36 := (vm_bs 37 (fs_aload_n (i := 0) rfl) rfl (vm_bs 40 (fs_getfield rfl) rfl (vm_bs 43 (fs_getfield rfl) rfl (vm_bs 44 (fs_iload_n (i := 1) rfl) rfl (vm_bs 45 (fs_iaload rfl) rfl (vm_bs 46 (fs_istore_n (i := 3) rfl rfl) rfl (vm_bs 47 (fs_aload_n (i := 0) rfl) rfl (vm_bs 50 (fs_getfield rfl) rfl (vm_bs 53 (fs_getfield rfl) rfl (vm_bs 54 (fs_iload_n (i := 1) rfl) rfl (vm_bs 55 (fs_iload_n (i := 2) rfl) rfl (vm_bs 56 (fs_iastore rfl) rfl (vm_bs 57 (fs_iload_n (i := 3) rfl) rfl vm_bf)))))))))))))
noncomputable def bt_49 : vm_T := [[(0, (.inr (5, bk_49_0))), (11, (.inr (5, bk_49_11)))], [(22, (.inr (6, bk_49_22)))], [(34, (.inr (1, bk_49_34))), (35, (.inl (fr_int .int))), (36, (.inr (13, bk_49_36)))], [(57, (.inl (fr_int .int)))]]
theorem bq_49 : ∀ mm, pm_m 49 = some mm → vm_tok mm bt_49 := fun mm h => by
  cases h
  exact (ft_c (fl_c (fy_blk bo_49_0 rfl) (fl_c (fy_blk bo_49_11 rfl) fl_n)) (ft_c (fl_c (fy_blk bo_49_22 rfl) fl_n) (ft_c (fl_c (fy_blk bo_49_34 rfl) (fl_c (fr_int_ok rfl rfl) (fl_c (fy_blk bo_49_36 rfl) fl_n))) (ft_c (fl_c (fr_int_ok rfl rfl) fl_n) ft_n))))
noncomputable def bk_50_0 : vm_G := fun ba k => fq_ldi 2 (fq_lda 0 (fq_getf 4 7 (fq_ldi 1 (fq_iald (fq_ic fm_eq 18 10 k)))))
theorem bo_50_0 : vm_bok m_50 0 6 bk_50_0 := (vm_bs 1 (fs_iload_n (i := 2) rfl) rfl (vm_bs 2 (fs_aload_n (i := 0) rfl) rfl (vm_bs 5 (fs_getfield rfl) rfl (vm_bs 6 (fs_iload_n (i := 1) rfl) rfl (vm_bs 7 (fs_iaload rfl) rfl (vm_be (fj_icmp rfl rfl)))))))
noncomputable def bk_50_10 : vm_G := fun ba k => fq_lda 0 (fq_ldi 2 (fq_call 28 2 (some 4) 0 0 ba (fq_if fm_eq 22 18 k)))
theorem bo_50_10 : vm_bok m_50 10 4 bk_50_10 := (vm_bs 11 (fs_aload_n (i := 0) rfl) rfl (vm_bs 12 (fs_iload_n (i := 2) rfl) rfl (vm_bs 15 (fs_inv rfl (Or.inl ⟨rfl, rfl⟩) rfl rfl rfl) rfl (vm_be (fj_if rfl rfl)))))
noncomputable def bk_50_18 : vm_G := fun ba k => fq_cst (.inl (.ofNat 1, .ofNat 1)) (fq_goto 23 k)
theorem bo_50_18 : vm_bok m_50 18 2 bk_50_18 := (vm_bs 19 (fs_iconst rfl ci_3) rfl (vm_be (fj_goto rfl)))
noncomputable def bk_50_22 : vm_G := fun ba k => fq_cst (.inl (.ofNat 0, .ofNat 0)) (k 23)
theorem bo_50_22 : vm_bok m_50 22 1 bk_50_22 := (vm_bs 23 (fs_iconst rfl ci_1) rfl vm_bf)
noncomputable def bt_50 : vm_T := [[(0, (.inr (6, bk_50_0))), (10, (.inr (4, bk_50_10)))], [(18, (.inr (2, bk_50_18))), (22, (.inr (1, bk_50_22))), (23, (.inl (fr_int .boolean)))]]
theorem bq_50 : ∀ mm, pm_m 50 = some mm → vm_tok mm bt_50 := fun mm h => by
  cases h
  exact (ft_c (fl_c (fy_blk bo_50_0 rfl) (fl_c (fy_blk bo_50_10 rfl) fl_n)) (ft_c (fl_c (fy_blk bo_50_18 rfl) (fl_c (fy_blk bo_50_22 rfl) (fl_c (fr_int_ok rfl rfl) fl_n))) ft_n))
noncomputable def bk_51_0 : vm_G := fun ba k => fq_lda 0 (fq_getf 6 2 (fq_ldi 1 (fq_call 40 2 (some 4) 0 0 ba (fq_if fm_ne 13 11 k))))
theorem bo_51_0 : vm_bok m_51 0 5 bk_51_0 := (vm_bs 1 (fs_aload_n (i := 0) rfl) rfl (vm_bs 4 (fs_getfield rfl) rfl (vm_bs 5 (fs_iload_n (i := 1) rfl) rfl (vm_bs 8 (fs_inv rfl (Or.inl ⟨rfl, rfl⟩) rfl rfl rfl) rfl (vm_be (fj_if rfl rfl))))))
noncomputable def bk_51_11 : vm_G := fun ba k => fq_cst (.inl (.negSucc 0, .negSucc 0)) (k 12)
theorem bo_51_11 : vm_bok m_51 11 1 bk_51_11 := (vm_bs 12 (fs_iconst rfl ci_7) rfl vm_bf)
noncomputable def bk_51_13 : vm_G := fun ba k => fq_lda 0 (fq_getf 6 2 (fq_getf 4 9 (fq_ldi 1 (fq_iald (fq_sti 3 (fq_lda 0 (fq_getf 6 2 (fq_getf 4 9 (fq_ldi 1 (fq_ldi 2 (fq_if fm_eq 39 35 k)))))))))))
theorem bo_51_13 : vm_bok m_51 13 12 bk_51_13 := (vm_bs 14 (fs_aload_n (i := 0) rfl) rfl (vm_bs 17 (fs_getfield rfl) rfl (vm_bs 20 (fs_getfield rfl) rfl (vm_bs 21 (fs_iload_n (i := 1) rfl) rfl (vm_bs 22 (fs_iaload rfl) rfl (vm_bs 23 (fs_istore_n (i := 3) rfl rfl) rfl (vm_bs 24 (fs_aload_n (i := 0) rfl) rfl (vm_bs 27 (fs_getfield rfl) rfl (vm_bs 30 (fs_getfield rfl) rfl (vm_bs 31 (fs_iload_n (i := 1) rfl) rfl (vm_bs 32 (fs_iload_n (i := 2) rfl) rfl (vm_be (fj_if rfl rfl)))))))))))))
noncomputable def bk_51_35 : vm_G := fun ba k => fq_cst (.inl (.ofNat 1, .ofNat 1)) (fq_goto 40 k)
theorem bo_51_35 : vm_bok m_51 35 2 bk_51_35 := (vm_bs 36 (fs_iconst rfl ci_3) rfl (vm_be (fj_goto rfl)))
noncomputable def bk_51_39 : vm_G := fun ba k => fq_cst (.inl (.ofNat 0, .ofNat 0)) (k 40)
theorem bo_51_39 : vm_bok m_51 39 1 bk_51_39 := (vm_bs 40 (fs_iconst rfl ci_1) rfl vm_bf)
noncomputable def bk_51_40 : vm_G := fun ba k => fq_iast (fq_ldi 3 (k 42))
theorem bo_51_40 : vm_bok m_51 40 2 bk_51_40 := (vm_bs 41 (fs_iastore rfl) rfl (vm_bs 42 (fs_iload_n (i := 3) rfl) rfl vm_bf))
noncomputable def bt_51 : vm_T := [[(0, (.inr (5, bk_51_0))), (11, (.inr (1, bk_51_11))), (12, (.inl (fr_int .int))), (13, (.inr (12, bk_51_13)))], [], [(35, (.inr (2, bk_51_35))), (39, (.inr (1, bk_51_39))), (40, (.inr (2, bk_51_40))), (42, (.inl (fr_int .int)))]]
theorem bq_51 : ∀ mm, pm_m 51 = some mm → vm_tok mm bt_51 := fun mm h => by
  cases h
  exact (ft_c (fl_c (fy_blk bo_51_0 rfl) (fl_c (fy_blk bo_51_11 rfl) (fl_c (fr_int_ok rfl rfl) (fl_c (fy_blk bo_51_13 rfl) fl_n)))) (ft_c fl_n (ft_c (fl_c (fy_blk bo_51_35 rfl) (fl_c (fy_blk bo_51_39 rfl) (fl_c (fy_blk bo_51_40 rfl) (fl_c (fr_int_ok rfl rfl) fl_n)))) ft_n)))
noncomputable def bk_52_0 : vm_G := fun ba k => fq_lda 0 (fq_getf 6 2 (fq_ldi 1 (fq_call 40 2 (some 4) 0 0 ba (fq_if fm_eq 28 11 k))))
theorem bo_52_0 : vm_bok m_52 0 5 bk_52_0 := (vm_bs 1 (fs_aload_n (i := 0) rfl) rfl (vm_bs 4 (fs_getfield rfl) rfl (vm_bs 5 (fs_iload_n (i := 1) rfl) rfl (vm_bs 8 (fs_inv rfl (Or.inl ⟨rfl, rfl⟩) rfl rfl rfl) rfl (vm_be (fj_if rfl rfl))))))
noncomputable def bk_52_11 : vm_G := fun ba k => fq_ldi 2 (fq_cst (.inl (.negSucc 3, .negSucc 3)) (fq_ic fm_eq 30 17 k))
theorem bo_52_11 : vm_bok m_52 11 3 bk_52_11 := (vm_bs 12 (fs_iload_n (i := 2) rfl) rfl (vm_bs 14 (fs_bipush rfl ci_2) rfl (vm_be (fj_icmp rfl rfl))))
noncomputable def bk_52_17 : vm_G := fun ba k => fq_lda 0 (fq_getf 6 2 (fq_ldi 2 (fq_call 38 2 (some 4) 0 0 ba (fq_if fm_ne 30 28 k))))
theorem bo_52_17 : vm_bok m_52 17 5 bk_52_17 := (vm_bs 18 (fs_aload_n (i := 0) rfl) rfl (vm_bs 21 (fs_getfield rfl) rfl (vm_bs 22 (fs_iload_n (i := 2) rfl) rfl (vm_bs 25 (fs_inv rfl (Or.inl ⟨rfl, rfl⟩) rfl rfl rfl) rfl (vm_be (fj_if rfl rfl))))))
noncomputable def bk_52_28 : vm_G := fun ba k => fq_cst (.inl (.negSucc 0, .negSucc 0)) (k 29)
theorem bo_52_28 : vm_bok m_52 28 1 bk_52_28 := (vm_bs 29 (fs_iconst rfl ci_7) rfl vm_bf)
noncomputable def bk_52_30 : vm_G := fun ba k => fq_lda 0 (fq_getf 6 2 (fq_getf 4 10 (fq_ldi 1 (fq_iald (fq_sti 3 (fq_lda 0 (fq_getf 6 2 (fq_getf 4 10 (fq_ldi 1 (fq_ldi 2 (fq_iast (fq_ldi 3 (k 51)))))))))))))
theorem bo_52_30 : vm_bok m_52 30 13 bk_52_30 := (vm_bs 31 (fs_aload_n (i := 0) rfl) rfl (vm_bs 34 (fs_getfield rfl) rfl (vm_bs 37 (fs_getfield rfl) rfl (vm_bs 38 (fs_iload_n (i := 1) rfl) rfl (vm_bs 39 (fs_iaload rfl) rfl (vm_bs 40 (fs_istore_n (i := 3) rfl rfl) rfl (vm_bs 41 (fs_aload_n (i := 0) rfl) rfl (vm_bs 44 (fs_getfield rfl) rfl (vm_bs 47 (fs_getfield rfl) rfl (vm_bs 48 (fs_iload_n (i := 1) rfl) rfl (vm_bs 49 (fs_iload_n (i := 2) rfl) rfl (vm_bs 50 (fs_iastore rfl) rfl (vm_bs 51 (fs_iload_n (i := 3) rfl) rfl vm_bf)))))))))))))
noncomputable def bt_52 : vm_T := [[(0, (.inr (5, bk_52_0))), (11, (.inr (3, bk_52_11)))], [(17, (.inr (5, bk_52_17))), (28, (.inr (1, bk_52_28))), (29, (.inl (fr_int .int))), (30, (.inr (13, bk_52_30)))], [], [(51, (.inl (fr_int .int)))]]
theorem bq_52 : ∀ mm, pm_m 52 = some mm → vm_tok mm bt_52 := fun mm h => by
  cases h
  exact (ft_c (fl_c (fy_blk bo_52_0 rfl) (fl_c (fy_blk bo_52_11 rfl) fl_n)) (ft_c (fl_c (fy_blk bo_52_17 rfl) (fl_c (fy_blk bo_52_28 rfl) (fl_c (fr_int_ok rfl rfl) (fl_c (fy_blk bo_52_30 rfl) fl_n)))) (ft_c fl_n (ft_c (fl_c (fr_int_ok rfl rfl) fl_n) ft_n))))
noncomputable def bk_53_0 : vm_G := fun ba k => fq_lda 0 (fq_getf 6 2 (fq_ldi 1 (fq_call 38 2 (some 4) 0 0 ba (fq_if fm_eq 24 11 k))))
theorem bo_53_0 : vm_bok m_53 0 5 bk_53_0 := (vm_bs 1 (fs_aload_n (i := 0) rfl) rfl (vm_bs 4 (fs_getfield rfl) rfl (vm_bs 5 (fs_iload_n (i := 1) rfl) rfl (vm_bs 8 (fs_inv rfl (Or.inl ⟨rfl, rfl⟩) rfl rfl rfl) rfl (vm_be (fj_if rfl rfl))))))
noncomputable def bk_53_11 : vm_G := fun ba k => fq_lda 0 (fq_getf 6 2 (fq_ldi 1 (fq_call 30 2 (some 4) 0 0 ba (fq_cst (.inl (.negSucc 3, .negSucc 3)) (fq_ic fm_eq 26 24 k)))))
theorem bo_53_11 : vm_bok m_53 11 6 bk_53_11 := (vm_bs 12 (fs_aload_n (i := 0) rfl) rfl (vm_bs 15 (fs_getfield rfl) rfl (vm_bs 16 (fs_iload_n (i := 1) rfl) rfl (vm_bs 19 (fs_inv rfl (Or.inl ⟨rfl, rfl⟩) rfl rfl rfl) rfl (vm_bs 21 (fs_bipush rfl ci_2) rfl (vm_be (fj_icmp rfl rfl)))))))
noncomputable def bk_53_24 : vm_G := fun ba k => fq_cst (.inl (.negSucc 0, .negSucc 0)) (k 25)
theorem bo_53_24 : vm_bok m_53 24 1 bk_53_24 := (vm_bs 25 (fs_iconst rfl ci_7) rfl vm_bf)
noncomputable def bk_53_26 : vm_G := fun ba k => fq_lda 0 (fq_getf 6 2 (fq_ldi 1 (fq_call 29 2 (some 4) 0 0 ba (fq_if fm_eq 41 37 k))))
theorem bo_53_26 : vm_bok m_53 26 5 bk_53_26 := (vm_bs 27 (fs_aload_n (i := 0) rfl) rfl (vm_bs 30 (fs_getfield rfl) rfl (vm_bs 31 (fs_iload_n (i := 1) rfl) rfl (vm_bs 34 (fs_inv rfl (Or.inl ⟨rfl, rfl⟩) rfl rfl rfl) rfl (vm_be (fj_if rfl rfl))))))
noncomputable def bk_53_37 : vm_G := fun ba k => fq_cst (.inl (.ofNat 1, .ofNat 1)) (fq_goto 42 k)
theorem bo_53_37 : vm_bok m_53 37 2 bk_53_37 := (vm_bs 38 (fs_iconst rfl ci_3) rfl (vm_be (fj_goto rfl)))
noncomputable def bk_53_41 : vm_G := fun ba k => fq_cst (.inl (.ofNat 0, .ofNat 0)) (k 42)
theorem bo_53_41 : vm_bok m_53 41 1 bk_53_41 := (vm_bs 42 (fs_iconst rfl ci_1) rfl vm_bf)
noncomputable def bk_53_42 : vm_G := fun ba k => fq_sti 3 (fq_lda 0 (fq_getf 6 2 (fq_ldi 2 (fq_if fm_eq 65 51 k))))
theorem bo_53_42 : vm_bok m_53 42 5 bk_53_42 := (vm_bs 43 (fs_istore_n (i := 3) rfl rfl) rfl (vm_bs 44 (fs_aload_n (i := 0) rfl) rfl (vm_bs 47 (fs_getfield rfl) rfl (vm_bs 48 (fs_iload_n (i := 2) rfl) rfl (vm_be (fj_if rfl rfl))))))
noncomputable def bk_53_51 : vm_G := fun ba k => fq_lda 0 (fq_getf 6 2 (fq_getf 4 2 (fq_cst (.inl (.ofNat 1, .ofNat 1)) (fq_ldi 1 (fq_slow m_53 (.ishl, 0, 0, 0) 60 61 ba (fq_slow m_53 (.ior, 0, 0, 0) 61 62 ba (fq_goto 78 k)))))))
theorem bo_53_51 : vm_bok m_53 51 8 bk_53_51 := (vm_bs 52 (fs_aload_n (i := 0) rfl) rfl (vm_bs 55 (fs_getfield rfl) rfl (vm_bs 58 (fs_getfield rfl) rfl (vm_bs 59 (fs_iconst rfl ci_3) rfl (vm_bs 60 (fs_iload_n (i := 1) rfl) rfl (vm_bs 61 (fs_slow rfl) rfl (vm_bs 62 (fs_slow rfl) rfl (vm_be (fj_goto rfl)))))))))
noncomputable def bk_53_65 : vm_G := fun ba k => fq_lda 0 (fq_getf 6 2 (fq_getf 4 2 (fq_cst (.inl (.ofNat 1, .ofNat 1)) (fq_ldi 1 (fq_slow m_53 (.ishl, 0, 0, 0) 74 75 ba (fq_cst (.inl (.negSucc 0, .negSucc 0)) (fq_slow m_53 (.ixor, 0, 0, 0) 76 77 ba (fq_bi am_and (k 78)))))))))
theorem bo_53_65 : vm_bok m_53 65 9 bk_53_65 := (vm_bs 66 (fs_aload_n (i := 0) rfl) rfl (vm_bs 69 (fs_getfield rfl) rfl (vm_bs 72 (fs_getfield rfl) rfl (vm_bs 73 (fs_iconst rfl ci_3) rfl (vm_bs 74 (fs_iload_n (i := 1) rfl) rfl (vm_bs 75 (fs_slow rfl) rfl (vm_bs 76 (fs_iconst rfl ci_7) rfl (vm_bs 77 (fs_slow rfl) rfl (vm_bs 78 (fs_iand rfl) rfl vm_bf)))))))))
noncomputable def bk_53_78 : vm_G := fun ba k => fq_putf 4 2 .int (fq_ldi 3 (k 82))
theorem bo_53_78 : vm_bok m_53 78 2 bk_53_78 := (vm_bs 81 (fs_putfield rfl rfl) rfl (vm_bs 82 (fs_iload_n (i := 3) rfl) rfl vm_bf))
noncomputable def bt_53 : vm_T := [[(0, (.inr (5, bk_53_0))), (11, (.inr (6, bk_53_11)))], [(24, (.inr (1, bk_53_24))), (25, (.inl (fr_int .int))), (26, (.inr (5, bk_53_26)))], [(37, (.inr (2, bk_53_37))), (41, (.inr (1, bk_53_41))), (42, (.inr (5, bk_53_42)))], [(51, (.inr (8, bk_53_51)))], [(65, (.inr (9, bk_53_65))), (78, (.inr (2, bk_53_78)))], [(82, (.inl (fr_int .int)))]]
theorem bq_53 : ∀ mm, pm_m 53 = some mm → vm_tok mm bt_53 := fun mm h => by
  cases h
  exact (ft_c (fl_c (fy_blk bo_53_0 rfl) (fl_c (fy_blk bo_53_11 rfl) fl_n)) (ft_c (fl_c (fy_blk bo_53_24 rfl) (fl_c (fr_int_ok rfl rfl) (fl_c (fy_blk bo_53_26 rfl) fl_n))) (ft_c (fl_c (fy_blk bo_53_37 rfl) (fl_c (fy_blk bo_53_41 rfl) (fl_c (fy_blk bo_53_42 rfl) fl_n))) (ft_c (fl_c (fy_blk bo_53_51 rfl) fl_n) (ft_c (fl_c (fy_blk bo_53_65 rfl) (fl_c (fy_blk bo_53_78 rfl) fl_n)) (ft_c (fl_c (fr_int_ok rfl rfl) fl_n) ft_n))))))
noncomputable def bk_54_0 : vm_G := fun ba k => fq_ldi 1 (fq_cst (.inl (.ofNat 1, .ofNat 1)) (fq_ic fm_lt 20 5 k))
theorem bo_54_0 : vm_bok m_54 0 3 bk_54_0 := (vm_bs 1 (fs_iload_n (i := 1) rfl) rfl (vm_bs 2 (fs_iconst rfl ci_3) rfl (vm_be (fj_icmp rfl rfl))))
noncomputable def bk_54_5 : vm_G := fun ba k => fq_ldi 1 (fq_cst (.inl (.ofNat 4, .ofNat 4)) (fq_ic fm_gt 20 10 k))
theorem bo_54_5 : vm_bok m_54 5 3 bk_54_5 := (vm_bs 6 (fs_iload_n (i := 1) rfl) rfl (vm_bs 7 (fs_iconst rfl ci_4) rfl (vm_be (fj_icmp rfl rfl))))
noncomputable def bk_54_10 : vm_G := fun ba k => fq_ldi 2 (fq_if fm_lt 20 14 k)
theorem bo_54_10 : vm_bok m_54 10 2 bk_54_10 := (vm_bs 11 (fs_iload_n (i := 2) rfl) rfl (vm_be (fj_if rfl rfl)))
noncomputable def bk_54_14 : vm_G := fun ba k => fq_ldi 2 (fq_cst (.inl (.ofNat 9, .ofNat 9)) (fq_ic fm_le 22 20 k))
theorem bo_54_14 : vm_bok m_54 14 3 bk_54_14 := (vm_bs 15 (fs_iload_n (i := 2) rfl) rfl (vm_bs 17 (fs_bipush rfl ci_21) rfl (vm_be (fj_icmp rfl rfl))))
noncomputable def bk_54_20 : vm_G := fun ba k => fq_cst (.inl (.negSucc 0, .negSucc 0)) (k 21)
theorem bo_54_20 : vm_bok m_54 20 1 bk_54_20 := (vm_bs 21 (fs_iconst rfl ci_7) rfl vm_bf)
noncomputable def bk_54_22 : vm_G := fun ba k => fq_lda 0 (fq_getf 6 2 (fq_getf 4 11 (fq_ldi 1 (fq_iald (fq_sti 3 (fq_lda 0 (fq_getf 6 2 (fq_getf 4 11 (fq_ldi 1 (fq_ldi 2 (fq_iast (fq_ldi 3 (k 43)))))))))))))
theorem bo_54_22 : vm_bok m_54 22 13 bk_54_22 := (vm_bs 23 (fs_aload_n (i := 0) rfl) rfl (vm_bs 26 (fs_getfield rfl) rfl (vm_bs 29 (fs_getfield rfl) rfl (vm_bs 30 (fs_iload_n (i := 1) rfl) rfl (vm_bs 31 (fs_iaload rfl) rfl (vm_bs 32 (fs_istore_n (i := 3) rfl rfl) rfl (vm_bs 33 (fs_aload_n (i := 0) rfl) rfl (vm_bs 36 (fs_getfield rfl) rfl (vm_bs 39 (fs_getfield rfl) rfl (vm_bs 40 (fs_iload_n (i := 1) rfl) rfl (vm_bs 41 (fs_iload_n (i := 2) rfl) rfl (vm_bs 42 (fs_iastore rfl) rfl (vm_bs 43 (fs_iload_n (i := 3) rfl) rfl vm_bf)))))))))))))
noncomputable def bt_54 : vm_T := [[(0, (.inr (3, bk_54_0))), (5, (.inr (3, bk_54_5))), (10, (.inr (2, bk_54_10))), (14, (.inr (3, bk_54_14)))], [(20, (.inr (1, bk_54_20))), (21, (.inl (fr_int .int))), (22, (.inr (13, bk_54_22)))], [(43, (.inl (fr_int .int)))]]
theorem bq_54 : ∀ mm, pm_m 54 = some mm → vm_tok mm bt_54 := fun mm h => by
  cases h
  exact (ft_c (fl_c (fy_blk bo_54_0 rfl) (fl_c (fy_blk bo_54_5 rfl) (fl_c (fy_blk bo_54_10 rfl) (fl_c (fy_blk bo_54_14 rfl) fl_n)))) (ft_c (fl_c (fy_blk bo_54_20 rfl) (fl_c (fr_int_ok rfl rfl) (fl_c (fy_blk bo_54_22 rfl) fl_n))) (ft_c (fl_c (fr_int_ok rfl rfl) fl_n) ft_n)))
noncomputable def bk_55_0 : vm_G := fun ba k => fq_ldi 1 (fq_if fm_lt 9 4 k)
theorem bo_55_0 : vm_bok m_55 0 2 bk_55_0 := (vm_bs 1 (fs_iload_n (i := 1) rfl) rfl (vm_be (fj_if rfl rfl)))
noncomputable def bk_55_4 : vm_G := fun ba k => fq_ldi 1 (fq_cst (.inl (.ofNat 4, .ofNat 4)) (fq_ic fm_le 11 9 k))
theorem bo_55_4 : vm_bok m_55 4 3 bk_55_4 := (vm_bs 5 (fs_iload_n (i := 1) rfl) rfl (vm_bs 6 (fs_iconst rfl ci_4) rfl (vm_be (fj_icmp rfl rfl))))
noncomputable def bk_55_9 : vm_G := fun ba k => fq_cst (.inl (.negSucc 0, .negSucc 0)) (k 10)
theorem bo_55_9 : vm_bok m_55 9 1 bk_55_9 := (vm_bs 10 (fs_iconst rfl ci_7) rfl vm_bf)
noncomputable def bk_55_11 : vm_G := fun ba k => fq_lda 0 (fq_getf 6 2 (fq_getf 4 4 (fq_sti 2 (fq_lda 0 (fq_getf 6 2 (fq_ldi 1 (fq_putf 4 4 .int (fq_ldi 2 (k 28)))))))))
theorem bo_55_11 : vm_bok m_55 11 9 bk_55_11 := (vm_bs 12 (fs_aload_n (i := 0) rfl) rfl (vm_bs 15 (fs_getfield rfl) rfl (vm_bs 18 (fs_getfield rfl) rfl (vm_bs 19 (fs_istore_n (i := 2) rfl rfl) rfl (vm_bs 20 (fs_aload_n (i := 0) rfl) rfl (vm_bs 23 (fs_getfield rfl) rfl (vm_bs 24 (fs_iload_n (i := 1) rfl) rfl (vm_bs 27 (fs_putfield rfl rfl) rfl (vm_bs 28 (fs_iload_n (i := 2) rfl) rfl vm_bf)))))))))
noncomputable def bt_55 : vm_T := [[(0, (.inr (2, bk_55_0))), (4, (.inr (3, bk_55_4))), (9, (.inr (1, bk_55_9))), (10, (.inl (fr_int .int))), (11, (.inr (9, bk_55_11)))], [(28, (.inl (fr_int .int)))]]
theorem bq_55 : ∀ mm, pm_m 55 = some mm → vm_tok mm bt_55 := fun mm h => by
  cases h
  exact (ft_c (fl_c (fy_blk bo_55_0 rfl) (fl_c (fy_blk bo_55_4 rfl) (fl_c (fy_blk bo_55_9 rfl) (fl_c (fr_int_ok rfl rfl) (fl_c (fy_blk bo_55_11 rfl) fl_n))))) (ft_c (fl_c (fr_int_ok rfl rfl) fl_n) ft_n))
noncomputable def bk_56_0 : vm_G := fun ba k => fq_lda 0 (fq_getf 6 2 (fq_ldi 1 (fq_call 40 2 (some 4) 0 0 ba (fq_if fm_eq 18 11 k))))
theorem bo_56_0 : vm_bok m_56 0 5 bk_56_0 := (vm_bs 1 (fs_aload_n (i := 0) rfl) rfl (vm_bs 4 (fs_getfield rfl) rfl (vm_bs 5 (fs_iload_n (i := 1) rfl) rfl (vm_bs 8 (fs_inv rfl (Or.inl ⟨rfl, rfl⟩) rfl rfl rfl) rfl (vm_be (fj_if rfl rfl))))))
noncomputable def bk_56_11 : vm_G := fun ba k => fq_ldi 2 (fq_call 57 1 none 0 0 ba (fq_if fm_ne 20 18 k))
theorem bo_56_11 : vm_bok m_56 11 3 bk_56_11 := (vm_bs 12 (fs_iload_n (i := 2) rfl) rfl (vm_bs 15 (fs_ins rfl rfl rfl (Or.inl rfl) rfl rfl rfl) rfl (vm_be (fj_if rfl rfl))))
noncomputable def bk_56_18 : vm_G := fun ba k => fq_cst (.inl (.negSucc 0, .negSucc 0)) (k 19)
theorem bo_56_18 : vm_bok m_56 18 1 bk_56_18 := (vm_bs 19 (fs_iconst rfl ci_7) rfl vm_bf)
noncomputable def bk_56_20 : vm_G := fun ba k => fq_lda 0 (fq_getf 6 3 (fq_lda 0 (fq_getf 6 2 (fq_call 58 2 (some 5) 0 0 ba (fq_cst (.inl (.ofNat 100, .ofNat 100)) (fq_ldi 2 (fq_if fm_ne 49 37 k)))))))
theorem bo_56_20 : vm_bok m_56 20 8 bk_56_20 := (vm_bs 21 (fs_aload_n (i := 0) rfl) rfl (vm_bs 24 (fs_getfield rfl) rfl (vm_bs 25 (fs_aload_n (i := 0) rfl) rfl (vm_bs 28 (fs_getfield rfl) rfl (vm_bs 31 (fs_inv rfl (Or.inl ⟨rfl, rfl⟩) rfl rfl rfl) rfl (vm_bs 33 (fs_bipush rfl ci_22) rfl (vm_bs 34 (fs_iload_n (i := 2) rfl) rfl (vm_be (fj_if rfl rfl)))))))))
noncomputable def bk_56_37 : vm_G := fun ba k => fq_lda 0 (fq_getf 6 3 (fq_getf 5 2 (fq_ldi 1 (fq_iald (fq_goto 58 k)))))
theorem bo_56_37 : vm_bok m_56 37 6 bk_56_37 := (vm_bs 38 (fs_aload_n (i := 0) rfl) rfl (vm_bs 41 (fs_getfield rfl) rfl (vm_bs 44 (fs_getfield rfl) rfl (vm_bs 45 (fs_iload_n (i := 1) rfl) rfl (vm_bs 46 (fs_iaload rfl) rfl (vm_be (fj_goto rfl)))))))
noncomputable def bk_56_49 : vm_G := fun ba k => fq_lda 0 (fq_getf 6 3 (fq_getf 5 3 (fq_ldi 1 (fq_iald (k 58)))))
theorem bo_56_49 : vm_bok m_56 49 5 bk_56_49 := (vm_bs 50 (fs_aload_n (i := 0) rfl) rfl (vm_bs 53 (fs_getfield rfl) rfl (vm_bs 56 (fs_getfield rfl) rfl (vm_bs 57 (fs_iload_n (i := 1) rfl) rfl (vm_bs 58 (fs_iaload rfl) rfl vm_bf)))))
noncomputable def bk_56_58 : vm_G := fun ba k => fq_bi fm_add (k 59)
theorem bo_56_58 : vm_bok m_56 58 1 bk_56_58 := (vm_bs 59 (fs_iadd rfl) rfl vm_bf)
noncomputable def bt_56 : vm_T := [[(0, (.inr (5, bk_56_0))), (11, (.inr (3, bk_56_11)))], [(18, (.inr (1, bk_56_18))), (19, (.inl (fr_int .int))), (20, (.inr (8, bk_56_20)))], [(37, (.inr (6, bk_56_37)))], [(49, (.inr (5, bk_56_49))), (58, (.inr (1, bk_56_58))), (59, (.inl (fr_int .int)))]]
theorem bq_56 : ∀ mm, pm_m 56 = some mm → vm_tok mm bt_56 := fun mm h => by
  cases h
  exact (ft_c (fl_c (fy_blk bo_56_0 rfl) (fl_c (fy_blk bo_56_11 rfl) fl_n)) (ft_c (fl_c (fy_blk bo_56_18 rfl) (fl_c (fr_int_ok rfl rfl) (fl_c (fy_blk bo_56_20 rfl) fl_n))) (ft_c (fl_c (fy_blk bo_56_37 rfl) fl_n) (ft_c (fl_c (fy_blk bo_56_49 rfl) (fl_c (fy_blk bo_56_58 rfl) (fl_c (fr_int_ok rfl rfl) fl_n))) ft_n))))
noncomputable def bk_57_0 : vm_G := fun ba k => fq_ldi 0 (fq_if fm_eq 9 4 k)
theorem bo_57_0 : vm_bok m_57 0 2 bk_57_0 := (vm_bs 1 (fs_iload_n (i := 0) rfl) rfl (vm_be (fj_if rfl rfl)))
noncomputable def bk_57_4 : vm_G := fun ba k => fq_ldi 0 (fq_cst (.inl (.ofNat 1, .ofNat 1)) (fq_ic fm_ne 13 9 k))
theorem bo_57_4 : vm_bok m_57 4 3 bk_57_4 := (vm_bs 5 (fs_iload_n (i := 0) rfl) rfl (vm_bs 6 (fs_iconst rfl ci_3) rfl (vm_be (fj_icmp rfl rfl))))
noncomputable def bk_57_9 : vm_G := fun ba k => fq_cst (.inl (.ofNat 1, .ofNat 1)) (fq_goto 14 k)
theorem bo_57_9 : vm_bok m_57 9 2 bk_57_9 := (vm_bs 10 (fs_iconst rfl ci_3) rfl (vm_be (fj_goto rfl)))
noncomputable def bk_57_13 : vm_G := fun ba k => fq_cst (.inl (.ofNat 0, .ofNat 0)) (k 14)
theorem bo_57_13 : vm_bok m_57 13 1 bk_57_13 := (vm_bs 14 (fs_iconst rfl ci_1) rfl vm_bf)
noncomputable def bt_57 : vm_T := [[(0, (.inr (2, bk_57_0))), (4, (.inr (3, bk_57_4))), (9, (.inr (2, bk_57_9))), (13, (.inr (1, bk_57_13))), (14, (.inl (fr_int .boolean)))]]
theorem bq_57 : ∀ mm, pm_m 57 = some mm → vm_tok mm bt_57 := fun mm h => by
  cases h
  exact (ft_c (fl_c (fy_blk bo_57_0 rfl) (fl_c (fy_blk bo_57_4 rfl) (fl_c (fy_blk bo_57_9 rfl) (fl_c (fy_blk bo_57_13 rfl) (fl_c (fr_int_ok rfl rfl) fl_n))))) ft_n)
noncomputable def bk_58_0 : vm_G := fun ba k => fq_cst (.inl (.ofNat 0, .ofNat 0)) (fq_sti 2 (k 2))
theorem bo_58_0 : vm_bok m_58 0 2 bk_58_0 := (vm_bs 1 (fs_iconst rfl ci_1) rfl (vm_bs 2 (fs_istore_n (i := 2) rfl rfl) rfl vm_bf))
noncomputable def bk_58_2 : vm_G := fun ba k => fq_ldi 2 (fq_lda 1 (fq_getf 4 3 (fq_ic fm_ge 62 10 k)))
theorem bo_58_2 : vm_bok m_58 2 4 bk_58_2 := (vm_bs 3 (fs_iload_n (i := 2) rfl) rfl (vm_bs 4 (fs_aload_n (i := 1) rfl) rfl (vm_bs 7 (fs_getfield rfl) rfl (vm_be (fj_icmp rfl rfl)))))
noncomputable def bk_58_10 : vm_G := fun ba k => fq_lda 0 (fq_getf 5 0 (fq_ldi 2 (fq_lda 1 (fq_lda 1 (fq_getf 4 7 (fq_ldi 2 (fq_iald (fq_call 59 2 (some 4) 0 0 ba (fq_iast (fq_lda 0 (fq_getf 5 1 (fq_ldi 2 (fq_lda 1 (fq_lda 1 (fq_getf 4 7 (fq_ldi 2 (fq_iald (fq_call 60 2 (some 4) 0 0 ba (fq_iast (fq_lda 0 (fq_getf 5 2 (fq_ldi 2 (fq_cst (.inl (.ofNat 0, .ofNat 0)) (fq_iast (fq_lda 0 (fq_getf 5 3 (fq_ldi 2 (fq_cst (.inl (.ofNat 0, .ofNat 0)) (fq_iast (fq_iinc 2 (.ofNat 1, .ofNat 1) (fq_goto 2 k)))))))))))))))))))))))))))))))
theorem bo_58_10 : vm_bok m_58 10 32 bk_58_10 := (vm_bs 11 (fs_aload_n (i := 0) rfl) rfl (vm_bs 14 (fs_getfield rfl) rfl (vm_bs 15 (fs_iload_n (i := 2) rfl) rfl (vm_bs 16 (fs_aload_n (i := 1) rfl) rfl (vm_bs 17 (fs_aload_n (i := 1) rfl) rfl (vm_bs 20 (fs_getfield rfl) rfl (vm_bs 21 (fs_iload_n (i := 2) rfl) rfl (vm_bs 22 (fs_iaload rfl) rfl (vm_bs 25 (fs_inv rfl (Or.inl ⟨rfl, rfl⟩) rfl rfl rfl) rfl (vm_bs 26 (fs_iastore rfl) rfl (vm_bs 27 (fs_aload_n (i := 0) rfl) rfl (vm_bs 30 (fs_getfield rfl) rfl (vm_bs 31 (fs_iload_n (i := 2) rfl) rfl (vm_bs 32 (fs_aload_n (i := 1) rfl) rfl (vm_bs 33 (fs_aload_n (i := 1) rfl) rfl (vm_bs 36 (fs_getfield rfl) rfl (vm_bs 37 (fs_iload_n (i := 2) rfl) rfl (vm_bs 38 (fs_iaload rfl) rfl (vm_bs 41 (fs_inv rfl (Or.inl ⟨rfl, rfl⟩) rfl rfl rfl) rfl (vm_bs 42 (fs_iastore rfl) rfl (vm_bs 43 (fs_aload_n (i := 0) rfl) rfl (vm_bs 46 (fs_getfield rfl) rfl (vm_bs 47 (fs_iload_n (i := 2) rfl) rfl (vm_bs 48 (fs_iconst rfl ci_1) rfl (vm_bs 49 (fs_iastore rfl) rfl (vm_bs 50 (fs_aload_n (i := 0) rfl) rfl (vm_bs 53 (fs_getfield rfl) rfl (vm_bs 54 (fs_iload_n (i := 2) rfl) rfl (vm_bs 55 (fs_iconst rfl ci_1) rfl (vm_bs 56 (fs_iastore rfl) rfl (vm_bs 59 (fs_iinc rfl ci_3 rfl) rfl (vm_be (fj_goto rfl)))))))))))))))))))))))))))))))))
noncomputable def bk_58_62 : vm_G := fun ba k => fq_cst (.inl (.ofNat 0, .ofNat 0)) (fq_sti 2 (k 64))
theorem bo_58_62 : vm_bok m_58 62 2 bk_58_62 := (vm_bs 63 (fs_iconst rfl ci_1) rfl (vm_bs 64 (fs_istore_n (i := 2) rfl rfl) rfl vm_bf))
noncomputable def bk_58_64 : vm_G := fun ba k => fq_ldi 2 (fq_lda 1 (fq_getf 4 3 (fq_ic fm_ge 121 72 k)))
theorem bo_58_64 : vm_bok m_58 64 4 bk_58_64 := (vm_bs 65 (fs_iload_n (i := 2) rfl) rfl (vm_bs 66 (fs_aload_n (i := 1) rfl) rfl (vm_bs 69 (fs_getfield rfl) rfl (vm_be (fj_icmp rfl rfl)))))
noncomputable def bk_58_72 : vm_G := fun ba k => fq_ldi 2 (fq_cst (.inl (.ofNat 1, .ofNat 1)) (fq_bi fm_add (fq_sti 3 (k 76))))
theorem bo_58_72 : vm_bok m_58 72 4 bk_58_72 := (vm_bs 73 (fs_iload_n (i := 2) rfl) rfl (vm_bs 74 (fs_iconst rfl ci_3) rfl (vm_bs 75 (fs_iadd rfl) rfl (vm_bs 76 (fs_istore_n (i := 3) rfl rfl) rfl vm_bf))))
noncomputable def bk_58_76 : vm_G := fun ba k => fq_ldi 3 (fq_lda 1 (fq_getf 4 3 (fq_ic fm_ge 115 84 k)))
theorem bo_58_76 : vm_bok m_58 76 4 bk_58_76 := (vm_bs 77 (fs_iload_n (i := 3) rfl) rfl (vm_bs 78 (fs_aload_n (i := 1) rfl) rfl (vm_bs 81 (fs_getfield rfl) rfl (vm_be (fj_icmp rfl rfl)))))
noncomputable def bk_58_84 : vm_G := fun ba k => fq_lda 1 (fq_getf 4 8 (fq_ldi 2 (fq_iald (fq_if fm_eq 115 93 k))))
theorem bo_58_84 : vm_bok m_58 84 5 bk_58_84 := (vm_bs 85 (fs_aload_n (i := 1) rfl) rfl (vm_bs 88 (fs_getfield rfl) rfl (vm_bs 89 (fs_iload_n (i := 2) rfl) rfl (vm_bs 90 (fs_iaload rfl) rfl (vm_be (fj_if rfl rfl))))))
noncomputable def bk_58_93 : vm_G := fun ba k => fq_lda 1 (fq_getf 4 8 (fq_ldi 3 (fq_iald (fq_if fm_eq 109 102 k))))
theorem bo_58_93 : vm_bok m_58 93 5 bk_58_93 := (vm_bs 94 (fs_aload_n (i := 1) rfl) rfl (vm_bs 97 (fs_getfield rfl) rfl (vm_bs 98 (fs_iload_n (i := 3) rfl) rfl (vm_bs 99 (fs_iaload rfl) rfl (vm_be (fj_if rfl rfl))))))
noncomputable def bk_58_102 : vm_G := fun ba k => fq_lda 0 (fq_lda 1 (fq_ldi 2 (fq_ldi 3 (fq_call 61 4 (some 5) 0 0 ba (k 109)))))
theorem bo_58_102 : vm_bok m_58 102 5 bk_58_102 := (vm_bs 103 (fs_aload_n (i := 0) rfl) rfl (vm_bs 104 (fs_aload_n (i := 1) rfl) rfl (vm_bs 105 (fs_iload_n (i := 2) rfl) rfl (vm_bs 106 (fs_iload_n (i := 3) rfl) rfl (vm_bs 109 (fs_inv rfl (Or.inl ⟨rfl, rfl⟩) rfl rfl rfl) rfl vm_bf)))))
noncomputable def bk_58_109 : vm_G := fun ba k => fq_iinc 3 (.ofNat 1, .ofNat 1) (fq_goto 76 k)
theorem bo_58_109 : vm_bok m_58 109 2 bk_58_109 := (vm_bs 112 (fs_iinc rfl ci_3 rfl) rfl (vm_be (fj_goto rfl)))
noncomputable def bk_58_115 : vm_G := fun ba k => fq_iinc 2 (.ofNat 1, .ofNat 1) (fq_goto 64 k)
theorem bo_58_115 : vm_bok m_58 115 2 bk_58_115 := (vm_bs 118 (fs_iinc rfl ci_3 rfl) rfl (vm_be (fj_goto rfl)))
noncomputable def bk_58_121 : vm_G := fun ba k => fq_cst (.inl (.ofNat 0, .ofNat 0)) (fq_sti 2 (k 123))
theorem bo_58_121 : vm_bok m_58 121 2 bk_58_121 := (vm_bs 122 (fs_iconst rfl ci_1) rfl (vm_bs 123 (fs_istore_n (i := 2) rfl rfl) rfl vm_bf))
noncomputable def bk_58_123 : vm_G := fun ba k => fq_ldi 2 (fq_lda 1 (fq_getf 4 3 (fq_ic fm_ge 171 131 k)))
theorem bo_58_123 : vm_bok m_58 123 4 bk_58_123 := (vm_bs 124 (fs_iload_n (i := 2) rfl) rfl (vm_bs 125 (fs_aload_n (i := 1) rfl) rfl (vm_bs 128 (fs_getfield rfl) rfl (vm_be (fj_icmp rfl rfl)))))
noncomputable def bk_58_131 : vm_G := fun ba k => fq_lda 0 (fq_getf 5 4 (fq_ldi 2 (fq_lda 1 (fq_getf 4 9 (fq_ldi 2 (fq_iald (fq_if fm_eq 149 145 k)))))))
theorem bo_58_131 : vm_bok m_58 131 8 bk_58_131 := (vm_bs 132 (fs_aload_n (i := 0) rfl) rfl (vm_bs 135 (fs_getfield rfl) rfl (vm_bs 136 (fs_iload_n (i := 2) rfl) rfl (vm_bs 137 (fs_aload_n (i := 1) rfl) rfl (vm_bs 140 (fs_getfield rfl) rfl (vm_bs 141 (fs_iload_n (i := 2) rfl) rfl (vm_bs 142 (fs_iaload rfl) rfl (vm_be (fj_if rfl rfl)))))))))
noncomputable def bk_58_145 : vm_G := fun ba k => fq_cst (.inl (.ofNat 4, .ofNat 4)) (fq_goto 164 k)
theorem bo_58_145 : vm_bok m_58 145 2 bk_58_145 := (vm_bs 146 (fs_iconst rfl ci_4) rfl (vm_be (fj_goto rfl)))
noncomputable def bk_58_149 : vm_G := fun ba k => fq_lda 0 (fq_getf 5 2 (fq_ldi 2 (fq_iald (fq_lda 0 (fq_getf 5 3 (fq_ldi 2 (fq_iald (fq_call 64 2 none 0 0 ba (k 164)))))))))
theorem bo_58_149 : vm_bok m_58 149 9 bk_58_149 := (vm_bs 150 (fs_aload_n (i := 0) rfl) rfl (vm_bs 153 (fs_getfield rfl) rfl (vm_bs 154 (fs_iload_n (i := 2) rfl) rfl (vm_bs 155 (fs_iaload rfl) rfl (vm_bs 156 (fs_aload_n (i := 0) rfl) rfl (vm_bs 159 (fs_getfield rfl) rfl (vm_bs 160 (fs_iload_n (i := 2) rfl) rfl (vm_bs 161 (fs_iaload rfl) rfl (vm_bs 164 (fs_ins rfl rfl rfl (Or.inl rfl) rfl rfl rfl) rfl vm_bf)))))))))
noncomputable def bk_58_164 : vm_G := fun ba k => fq_iast (fq_iinc 2 (.ofNat 1, .ofNat 1) (fq_goto 123 k))
theorem bo_58_164 : vm_bok m_58 164 3 bk_58_164 := (vm_bs 165 (fs_iastore rfl) rfl (vm_bs 168 (fs_iinc rfl ci_3 rfl) rfl (vm_be (fj_goto rfl))))
noncomputable def bt_58 : vm_T := [[(0, (.inr (2, bk_58_0))), (2, (.inr (4, bk_58_2))), (10, (.inr (32, bk_58_10)))], [], [], [(62, (.inr (2, bk_58_62)))], [(64, (.inr (4, bk_58_64))), (72, (.inr (4, bk_58_72))), (76, (.inr (4, bk_58_76)))], [(84, (.inr (5, bk_58_84))), (93, (.inr (5, bk_58_93)))], [(102, (.inr (5, bk_58_102))), (109, (.inr (2, bk_58_109)))], [(115, (.inr (2, bk_58_115))), (121, (.inr (2, bk_58_121))), (123, (.inr (4, bk_58_123)))], [(131, (.inr (8, bk_58_131)))], [(145, (.inr (2, bk_58_145))), (149, (.inr (9, bk_58_149)))], [(164, (.inr (3, bk_58_164))), (171, (.inl fr_void))]]
theorem bq_58 : ∀ mm, pm_m 58 = some mm → vm_tok mm bt_58 := fun mm h => by
  cases h
  exact (ft_c (fl_c (fy_blk bo_58_0 rfl) (fl_c (fy_blk bo_58_2 rfl) (fl_c (fy_blk bo_58_10 rfl) fl_n))) (ft_c fl_n (ft_c fl_n (ft_c (fl_c (fy_blk bo_58_62 rfl) fl_n) (ft_c (fl_c (fy_blk bo_58_64 rfl) (fl_c (fy_blk bo_58_72 rfl) (fl_c (fy_blk bo_58_76 rfl) fl_n))) (ft_c (fl_c (fy_blk bo_58_84 rfl) (fl_c (fy_blk bo_58_93 rfl) fl_n)) (ft_c (fl_c (fy_blk bo_58_102 rfl) (fl_c (fy_blk bo_58_109 rfl) fl_n)) (ft_c (fl_c (fy_blk bo_58_115 rfl) (fl_c (fy_blk bo_58_121 rfl) (fl_c (fy_blk bo_58_123 rfl) fl_n))) (ft_c (fl_c (fy_blk bo_58_131 rfl) fl_n) (ft_c (fl_c (fy_blk bo_58_145 rfl) (fl_c (fy_blk bo_58_149 rfl) fl_n)) (ft_c (fl_c (fy_blk bo_58_164 rfl) (fl_c (fr_void_ok rfl rfl) fl_n)) ft_n)))))))))))
noncomputable def bk_59_0 : vm_G := fun ba k => fq_lda 0 (fq_getf 4 0 (fq_if fm_le 16 7 k))
theorem bo_59_0 : vm_bok m_59 0 3 bk_59_0 := (vm_bs 1 (fs_aload_n (i := 0) rfl) rfl (vm_bs 4 (fs_getfield rfl) rfl (vm_be (fj_if rfl rfl))))
noncomputable def bk_59_7 : vm_G := fun ba k => fq_ldi 1 (fq_lda 0 (fq_getf 4 0 (fq_slow m_59 (.irem, 0, 0, 0) 12 13 ba (fq_goto 17 k))))
theorem bo_59_7 : vm_bok m_59 7 5 bk_59_7 := (vm_bs 8 (fs_iload_n (i := 1) rfl) rfl (vm_bs 9 (fs_aload_n (i := 0) rfl) rfl (vm_bs 12 (fs_getfield rfl) rfl (vm_bs 13 (fs_slow rfl) rfl (vm_be (fj_goto rfl))))))
noncomputable def bk_59_16 : vm_G := fun ba k => fq_cst (.inl (.ofNat 0, .ofNat 0)) (k 17)
theorem bo_59_16 : vm_bok m_59 16 1 bk_59_16 := (vm_bs 17 (fs_iconst rfl ci_1) rfl vm_bf)
noncomputable def bt_59 : vm_T := [[(0, (.inr (3, bk_59_0))), (7, (.inr (5, bk_59_7)))], [(16, (.inr (1, bk_59_16))), (17, (.inl (fr_int .int)))]]
theorem bq_59 : ∀ mm, pm_m 59 = some mm → vm_tok mm bt_59 := fun mm h => by
  cases h
  exact (ft_c (fl_c (fy_blk bo_59_0 rfl) (fl_c (fy_blk bo_59_7 rfl) fl_n)) (ft_c (fl_c (fy_blk bo_59_16 rfl) (fl_c (fr_int_ok rfl rfl) fl_n)) ft_n))
noncomputable def bk_60_0 : vm_G := fun ba k => fq_lda 0 (fq_getf 4 0 (fq_if fm_le 16 7 k))
theorem bo_60_0 : vm_bok m_60 0 3 bk_60_0 := (vm_bs 1 (fs_aload_n (i := 0) rfl) rfl (vm_bs 4 (fs_getfield rfl) rfl (vm_be (fj_if rfl rfl))))
noncomputable def bk_60_7 : vm_G := fun ba k => fq_ldi 1 (fq_lda 0 (fq_getf 4 0 (fq_slow m_60 (.idiv, 0, 0, 0) 12 13 ba (fq_goto 17 k))))
theorem bo_60_7 : vm_bok m_60 7 5 bk_60_7 := (vm_bs 8 (fs_iload_n (i := 1) rfl) rfl (vm_bs 9 (fs_aload_n (i := 0) rfl) rfl (vm_bs 12 (fs_getfield rfl) rfl (vm_bs 13 (fs_slow rfl) rfl (vm_be (fj_goto rfl))))))
noncomputable def bk_60_16 : vm_G := fun ba k => fq_cst (.inl (.ofNat 0, .ofNat 0)) (k 17)
theorem bo_60_16 : vm_bok m_60 16 1 bk_60_16 := (vm_bs 17 (fs_iconst rfl ci_1) rfl vm_bf)
noncomputable def bt_60 : vm_T := [[(0, (.inr (3, bk_60_0))), (7, (.inr (5, bk_60_7)))], [(16, (.inr (1, bk_60_16))), (17, (.inl (fr_int .int)))]]
theorem bq_60 : ∀ mm, pm_m 60 = some mm → vm_tok mm bt_60 := fun mm h => by
  cases h
  exact (ft_c (fl_c (fy_blk bo_60_0 rfl) (fl_c (fy_blk bo_60_7 rfl) fl_n)) (ft_c (fl_c (fy_blk bo_60_16 rfl) (fl_c (fr_int_ok rfl rfl) fl_n)) ft_n))
noncomputable def bk_61_0 : vm_G := fun ba k => fq_lda 0 (fq_getf 5 0 (fq_ldi 3 (fq_iald (fq_lda 0 (fq_getf 5 0 (fq_ldi 2 (fq_iald (fq_bi fm_sub (fq_sti 4 (fq_lda 0 (fq_getf 5 1 (fq_ldi 3 (fq_iald (fq_lda 0 (fq_getf 5 1 (fq_ldi 2 (fq_iald (fq_bi fm_sub (fq_sti 5 (fq_ldi 4 (fq_call 62 1 none 0 0 ba (fq_ldi 5 (fq_call 62 1 none 0 0 ba (fq_bi fm_add (fq_sti 6 (k 43))))))))))))))))))))))))))
theorem bo_61_0 : vm_bok m_61 0 26 bk_61_0 := (vm_bs 1 (fs_aload_n (i := 0) rfl) rfl (vm_bs 4 (fs_getfield rfl) rfl (vm_bs 5 (fs_iload_n (i := 3) rfl) rfl (vm_bs 6 (fs_iaload rfl) rfl (vm_bs 7 (fs_aload_n (i := 0) rfl) rfl (vm_bs 10 (fs_getfield rfl) rfl (vm_bs 11 (fs_iload_n (i := 2) rfl) rfl (vm_bs 12 (fs_iaload rfl) rfl (vm_bs 13 (fs_isub rfl) rfl (vm_bs 15 (fs_istore (i := 4) rfl rfl) rfl (vm_bs 16 (fs_aload_n (i := 0) rfl) rfl (vm_bs 19 (fs_getfield rfl) rfl (vm_bs 20 (fs_iload_n (i := 3) rfl) rfl (vm_bs 21 (fs_iaload rfl) rfl (vm_bs 22 (fs_aload_n (i := 0) rfl) rfl (vm_bs 25 (fs_getfield rfl) rfl (vm_bs 26 (fs_iload_n (i := 2) rfl) rfl (vm_bs 27 (fs_iaload rfl) rfl (vm_bs 28 (fs_isub rfl) rfl (vm_bs 30 (fs_istore (i := 5) rfl rfl) rfl (vm_bs 32 (fs_iload (i := 4) rfl) rfl (vm_bs 35 (fs_ins rfl rfl rfl (Or.inl rfl) rfl rfl rfl) rfl (vm_bs 37 (fs_iload (i := 5) rfl) rfl (vm_bs 40 (fs_ins rfl rfl rfl (Or.inl rfl) rfl rfl rfl) rfl (vm_bs 41 (fs_iadd rfl) rfl (vm_bs 43 (fs_istore (i := 6) rfl rfl) rfl vm_bf))))))))))))))))))))))))))
noncomputable def bk_61_43 : vm_G := fun ba k => fq_ldi 6 (fq_cst (.inl (.ofNat 4, .ofNat 4)) (fq_ic fm_le 50 49 k))
theorem bo_61_43 : vm_bok m_61 43 3 bk_61_43 := (vm_bs 45 (fs_iload (i := 6) rfl) rfl (vm_bs 46 (fs_iconst rfl ci_4) rfl (vm_be (fj_icmp rfl rfl))))
noncomputable def bk_61_50 : vm_G := fun ba k => fq_lda 1 (fq_getf 4 8 (fq_ldi 2 (fq_iald (fq_lda 1 (fq_getf 4 8 (fq_ldi 3 (fq_iald (fq_ic fm_ne 76 65 k))))))))
theorem bo_61_50 : vm_bok m_61 50 9 bk_61_50 := (vm_bs 51 (fs_aload_n (i := 1) rfl) rfl (vm_bs 54 (fs_getfield rfl) rfl (vm_bs 55 (fs_iload_n (i := 2) rfl) rfl (vm_bs 56 (fs_iaload rfl) rfl (vm_bs 57 (fs_aload_n (i := 1) rfl) rfl (vm_bs 60 (fs_getfield rfl) rfl (vm_bs 61 (fs_iload_n (i := 3) rfl) rfl (vm_bs 62 (fs_iaload rfl) rfl (vm_be (fj_icmp rfl rfl))))))))))
noncomputable def bk_61_65 : vm_G := fun ba k => fq_lda 1 (fq_getf 4 11 (fq_ldi 6 (fq_iald (fq_slow m_61 (.ineg, 0, 0, 0) 72 73 ba (fq_goto 83 k)))))
theorem bo_61_65 : vm_bok m_61 65 6 bk_61_65 := (vm_bs 66 (fs_aload_n (i := 1) rfl) rfl (vm_bs 69 (fs_getfield rfl) rfl (vm_bs 71 (fs_iload (i := 6) rfl) rfl (vm_bs 72 (fs_iaload rfl) rfl (vm_bs 73 (fs_slow rfl) rfl (vm_be (fj_goto rfl)))))))
noncomputable def bk_61_76 : vm_G := fun ba k => fq_lda 1 (fq_getf 4 11 (fq_ldi 6 (fq_iald (k 83))))
theorem bo_61_76 : vm_bok m_61 76 4 bk_61_76 := (vm_bs 77 (fs_aload_n (i := 1) rfl) rfl (vm_bs 80 (fs_getfield rfl) rfl (vm_bs 82 (fs_iload (i := 6) rfl) rfl (vm_bs 83 (fs_iaload rfl) rfl vm_bf))))
noncomputable def bk_61_83 : vm_G := fun ba k => fq_sti 7 (fq_ldi 7 (fq_ldi 4 (fq_cst (.inl (.ofNat 0, .ofNat 0)) (fq_call 63 2 none 0 0 ba (fq_bi am_mul (fq_sti 8 (fq_ldi 7 (fq_ldi 5 (fq_cst (.inl (.ofNat 0, .ofNat 0)) (fq_call 63 2 none 0 0 ba (fq_bi am_mul (fq_sti 9 (fq_lda 0 (fq_getf 5 2 (fq_ldi 2 (fq_slow m_61 (.dup2, 0, 0, 0) 112 113 ba (fq_iald (fq_ldi 8 (fq_bi fm_add (fq_iast (fq_lda 0 (fq_getf 5 2 (fq_ldi 3 (fq_slow m_61 (.dup2, 0, 0, 0) 123 124 ba (fq_iald (fq_ldi 8 (fq_bi fm_sub (fq_iast (fq_lda 0 (fq_getf 5 3 (fq_ldi 2 (fq_slow m_61 (.dup2, 0, 0, 0) 134 135 ba (fq_iald (fq_ldi 9 (fq_bi fm_add (fq_iast (fq_lda 0 (fq_getf 5 3 (fq_ldi 3 (fq_slow m_61 (.dup2, 0, 0, 0) 145 146 ba (fq_iald (fq_ldi 9 (fq_bi fm_sub (fq_iast (k 151)))))))))))))))))))))))))))))))))))))))))))))
theorem bo_61_83 : vm_bok m_61 83 45 bk_61_83 := (vm_bs 85 (fs_istore (i := 7) rfl rfl) rfl (vm_bs 87 (fs_iload (i := 7) rfl) rfl (vm_bs 89 (fs_iload (i := 4) rfl) rfl (vm_bs 90 (fs_iconst rfl ci_1) rfl (vm_bs 93 (fs_ins rfl rfl rfl (Or.inl rfl) rfl rfl rfl) rfl (vm_bs 94 (fs_imul rfl) rfl (vm_bs 96 (fs_istore (i := 8) rfl rfl) rfl (vm_bs 98 (fs_iload (i := 7) rfl) rfl (vm_bs 100 (fs_iload (i := 5) rfl) rfl (vm_bs 101 (fs_iconst rfl ci_1) rfl (vm_bs 104 (fs_ins rfl rfl rfl (Or.inl rfl) rfl rfl rfl) rfl (vm_bs 105 (fs_imul rfl) rfl (vm_bs 107 (fs_istore (i := 9) rfl rfl) rfl (vm_bs 108 (fs_aload_n (i := 0) rfl) rfl (vm_bs 111 (fs_getfield rfl) rfl (vm_bs 112 (fs_iload_n (i := 2) rfl) rfl (vm_bs 113 (fs_slow rfl) rfl (vm_bs 114 (fs_iaload rfl) rfl (vm_bs 116 (fs_iload (i := 8) rfl) rfl (vm_bs 117 (fs_iadd rfl) rfl (vm_bs 118 (fs_iastore rfl) rfl (vm_bs 119 (fs_aload_n (i := 0) rfl) rfl (vm_bs 122 (fs_getfield rfl) rfl (vm_bs 123 (fs_iload_n (i := 3) rfl) rfl (vm_bs 124 (fs_slow rfl) rfl (vm_bs 125 (fs_iaload rfl) rfl (vm_bs 127 (fs_iload (i := 8) rfl) rfl (vm_bs 128 (fs_isub rfl) rfl (vm_bs 129 (fs_iastore rfl) rfl (vm_bs 130 (fs_aload_n (i := 0) rfl) rfl (vm_bs 133 (fs_getfield rfl) rfl (vm_bs 134 (fs_iload_n (i := 2) rfl) rfl (vm_bs 135 (fs_slow rfl) rfl (vm_bs 136 (fs_iaload rfl) rfl (vm_bs 138 (fs_iload (i := 9) rfl) rfl (vm_bs 139 (fs_iadd rfl) rfl (vm_bs 140 (fs_iastore rfl) rfl (vm_bs 141 (fs_aload_n (i := 0) rfl) rfl (vm_bs 144 (fs_getfield rfl) rfl (vm_bs 145 (fs_iload_n (i := 3) rfl) rfl (vm_bs 146 (fs_slow rfl) rfl (vm_bs 147 (fs_iaload rfl) rfl (vm_bs 149 (fs_iload (i := 9) rfl) rfl (vm_bs 150 (fs_isub rfl) rfl (vm_bs 151 (fs_iastore rfl) rfl vm_bf)))))))))))))))))))))))))))))))))))))))))))))
noncomputable def bt_61 : vm_T := [[(0, (.inr (26, bk_61_0)))], [], [(43, (.inr (3, bk_61_43)))], [(49, (.inl fr_void)), (50, (.inr (9, bk_61_50)))], [(65, (.inr (6, bk_61_65))), (76, (.inr (4, bk_61_76)))], [(83, (.inr (45, bk_61_83)))], [], [], [], [(151, (.inl fr_void))]]
theorem bq_61 : ∀ mm, pm_m 61 = some mm → vm_tok mm bt_61 := fun mm h => by
  cases h
  exact (ft_c (fl_c (fy_blk bo_61_0 rfl) fl_n) (ft_c fl_n (ft_c (fl_c (fy_blk bo_61_43 rfl) fl_n) (ft_c (fl_c (fr_void_ok rfl rfl) (fl_c (fy_blk bo_61_50 rfl) fl_n)) (ft_c (fl_c (fy_blk bo_61_65 rfl) (fl_c (fy_blk bo_61_76 rfl) fl_n)) (ft_c (fl_c (fy_blk bo_61_83 rfl) fl_n) (ft_c fl_n (ft_c fl_n (ft_c fl_n (ft_c (fl_c (fr_void_ok rfl rfl) fl_n) ft_n))))))))))
