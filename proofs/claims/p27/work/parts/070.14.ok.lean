section
theorem rxOK322_0 {B : bx_B} {Cn : Nat → List bx_Ct} : rx_chOK B (bx_xh B rxT Cn rxCp rxSl) rxT rxM322 0 (rxE322_0 B Cn) := rx_ch_some (rx_k_iconst (n := 0) rfl (by decide +kernel)) (rx_ch_some (rx_k_istore_n (k := 1) rfl rfl (by decide +kernel)) (rx_ch_some (rx_k_iconst (n := 0) rfl (by decide +kernel)) (rx_ch_some (rx_k_istore_n (k := 2) rfl rfl (by decide +kernel)) (rx_ch_some (rx_k_iload_n (k := 2) rfl (by decide +kernel)) (rx_ch_some (rx_k_iconst (n := 4) rfl (by decide +kernel)) (rx_ch_some (rx_k_icmp (cnd := .ge) (off := 60) (tgt := 66) (by decide +kernel) rfl (by decide +kernel)) (rx_ch_none (rx_ch_none (rx_ch_some (rx_k_iconst (n := 0) rfl (by decide +kernel)) (rx_ch_some (rx_k_istore_n (k := 3) rfl rfl (by decide +kernel)) (rx_ch_some (rx_k_iload_n (k := 3) rfl (by decide +kernel)) (rx_ch_some (rx_k_aload_n (k := 0) rfl (by decide +kernel)) (rx_ch_some (rx_k_get (idx := 13) (q := (12, 3, 3, true, false)) rfl (by decide +kernel)) (rx_ch_nil))))))))))))))
theorem rxOK322_1 {B : bx_B} {Cn : Nat → List bx_Ct} : rx_chOK B (bx_xh B rxT Cn rxCp rxSl) rxT rxM322 16 (rxE322_1 B Cn) := rx_ch_some (rx_k_bipush (n := 6) (by decide +kernel) (by decide +kernel)) (rx_ch_none (rx_ch_some (rx_k_iaload (by decide +kernel)) (rx_ch_some (rx_k_icmp (cnd := .ge) (off := 41) (tgt := 60) (by decide +kernel) rfl (by decide +kernel)) (rx_ch_none (rx_ch_none (rx_ch_some (rx_k_aload_n (k := 0) rfl (by decide +kernel)) (rx_ch_some (rx_k_get (idx := 13) (q := (12, 3, 3, true, false)) rfl (by decide +kernel)) (rx_ch_none (rx_ch_none (rx_ch_some (rx_k_sipush (n := 742) (by decide +kernel) (by decide +kernel)) (rx_ch_none (rx_ch_none (rx_ch_some (rx_k_iconst (n := 3) rfl (by decide +kernel)) (rx_ch_some (rx_k_iload_n (k := 3) rfl (by decide +kernel)) (rx_ch_some (rx_k_imul (by decide +kernel)) (rx_ch_nil))))))))))))))))
theorem rxOK322_2 {B : bx_B} {Cn : Nat → List bx_Ct} : rx_chOK B (bx_xh B rxT Cn rxCp rxSl) rxT rxM322 32 (rxE322_2 B Cn) := rx_ch_some (rx_k_iadd (by decide +kernel)) (rx_ch_some (rx_k_iaload (by decide +kernel)) (rx_ch_some (rx_k_iload_n (k := 2) rfl (by decide +kernel)) (rx_ch_some (rx_k_icmp (cnd := .ne) (off := 19) (tgt := 54) (by decide +kernel) rfl (by decide +kernel)) (rx_ch_none (rx_ch_none (rx_ch_some (rx_k_aload_n (k := 0) rfl (by decide +kernel)) (rx_ch_some (rx_k_get (idx := 133) (q := (12, 61, 3, true, false)) rfl (by decide +kernel)) (rx_ch_none (rx_ch_none (rx_ch_some (rx_k_iload_n (k := 1) rfl (by decide +kernel)) (rx_ch_some (rx_k_sipush (n := 742) (by decide +kernel) (by decide +kernel)) (rx_ch_none (rx_ch_none (rx_ch_some (rx_k_iconst (n := 3) rfl (by decide +kernel)) (rx_ch_some (rx_k_iload_n (k := 3) rfl (by decide +kernel)) (rx_ch_nil))))))))))))))))
theorem rxOK322_3 {B : bx_B} {Cn : Nat → List bx_Ct} : rx_chOK B (bx_xh B rxT Cn rxCp rxSl) rxT rxM322 48 (rxE322_3 B Cn) := rx_ch_some (rx_k_imul (by decide +kernel)) (rx_ch_some (rx_k_iadd (by decide +kernel)) (rx_ch_some (rx_k_iastore (by decide +kernel)) (rx_ch_some (rx_k_iinc (i := 1) (n := 1) rfl rfl (by decide +kernel)) (rx_ch_none (rx_ch_none (rx_ch_some (rx_k_iinc (i := 3) (n := 1) rfl rfl (by decide +kernel)) (rx_ch_none (rx_ch_none (rx_ch_some (rx_k_goto (off := (-46)) (tgt := 11) (by decide +kernel) (by decide +kernel)) (rx_ch_none (rx_ch_none (rx_ch_some (rx_k_iinc (i := 2) (n := 1) rfl rfl (by decide +kernel)) (rx_ch_none (rx_ch_none (rx_ch_some (rx_k_goto (off := (-59)) (tgt := 4) (by decide +kernel) (by decide +kernel)) (rx_ch_nil))))))))))))))))
theorem rxOK322_4 {B : bx_B} {Cn : Nat → List bx_Ct} : rx_chOK B (bx_xh B rxT Cn rxCp rxSl) rxT rxM322 64 (rxE322_4 B Cn) := rx_ch_none (rx_ch_none (rx_ch_some (rx_k_retv rfl rfl rfl (by decide +kernel)) (rx_ch_nil)))
theorem rxOK322 {B : bx_B} {Cn : Nat → List bx_Ct} : rx_mcOK B (bx_xh B rxT Cn rxCp rxSl) rxT rxM322 0 (rxE322 B Cn) := rx_mc_cons rxOK322_0 (rx_mc_cons rxOK322_1 (rx_mc_cons rxOK322_2 (rx_mc_cons rxOK322_3 (rx_mc_cons rxOK322_4 (rx_mc_nil)))))
theorem rxOK323_0 {B : bx_B} {Cn : Nat → List bx_Ct} : rx_chOK B (bx_xh B rxT Cn rxCp rxSl) rxT rxM323 0 (rxE323_0 B Cn) := rx_ch_some (rx_k_aload_n (k := 0) rfl (by decide +kernel)) (rx_ch_some (rx_k_get (idx := 13) (q := (12, 3, 3, true, false)) rfl (by decide +kernel)) (rx_ch_none (rx_ch_none (rx_ch_some (rx_k_bipush (n := 6) (by decide +kernel) (by decide +kernel)) (rx_ch_none (rx_ch_some (rx_k_iaload (by decide +kernel)) (rx_ch_some (rx_k_istore (i := 4) rfl (by decide +kernel)) (rx_ch_none (rx_ch_some (rx_k_aload_n (k := 0) rfl (by decide +kernel)) (rx_ch_some (rx_k_iconst (n := 0) rfl (by decide +kernel)) (rx_ch_some (rx_k_put (idx := 580) (q := (12, 69, 0, false, false)) rfl (by decide +kernel)) (rx_ch_none (rx_ch_none (rx_ch_some (rx_k_aload_n (k := 0) rfl (by decide +kernel)) (rx_ch_some (rx_k_iconst (n := 0) rfl (by decide +kernel)) (rx_ch_nil))))))))))))))))
theorem rxOK323_1 {B : bx_B} {Cn : Nat → List bx_Ct} : rx_chOK B (bx_xh B rxT Cn rxCp rxSl) rxT rxM323 16 (rxE323_1 B Cn) := rx_ch_some (rx_k_put (idx := 583) (q := (12, 70, 0, false, false)) rfl (by decide +kernel)) (rx_ch_none (rx_ch_none (rx_ch_some (rx_k_iconst (n := 0) rfl (by decide +kernel)) (rx_ch_some (rx_k_istore (i := 5) rfl (by decide +kernel)) (rx_ch_none (rx_ch_some (rx_k_iload (i := 5) (by decide +kernel)) (rx_ch_none (rx_ch_some (rx_k_bipush (n := 18) (by decide +kernel) (by decide +kernel)) (rx_ch_none (rx_ch_some (rx_k_icmp (cnd := .ge) (off := 25) (tgt := 51) (by decide +kernel) rfl (by decide +kernel)) (rx_ch_none (rx_ch_none (rx_ch_some (rx_k_aload_n (k := 0) rfl (by decide +kernel)) (rx_ch_some (rx_k_get (idx := 139) (q := (12, 63, 3, true, false)) rfl (by decide +kernel)) (rx_ch_nil)))))))))))))))
theorem rxOK323_2 {B : bx_B} {Cn : Nat → List bx_Ct} : rx_chOK B (bx_xh B rxT Cn rxCp rxSl) rxT rxM323 32 (rxE323_2 B Cn) := rx_ch_none (rx_ch_some (rx_k_iload (i := 5) (by decide +kernel)) (rx_ch_none (rx_ch_some (rx_k_iconst (n := (-1)) rfl (by decide +kernel)) (rx_ch_some (rx_k_iastore (by decide +kernel)) (rx_ch_some (rx_k_aload_n (k := 0) rfl (by decide +kernel)) (rx_ch_some (rx_k_get (idx := 142) (q := (12, 64, 3, true, false)) rfl (by decide +kernel)) (rx_ch_none (rx_ch_none (rx_ch_some (rx_k_iload (i := 5) (by decide +kernel)) (rx_ch_none (rx_ch_some (rx_k_iconst (n := (-1)) rfl (by decide +kernel)) (rx_ch_some (rx_k_iastore (by decide +kernel)) (rx_ch_some (rx_k_iinc (i := 5) (n := 1) rfl rfl (by decide +kernel)) (rx_ch_nil))))))))))))))
theorem rxOK323_3 {B : bx_B} {Cn : Nat → List bx_Ct} : rx_chOK B (bx_xh B rxT Cn rxCp rxSl) rxT rxM323 48 (rxE323_3 B Cn) := rx_ch_some (rx_k_goto (off := (-26)) (tgt := 22) (by decide +kernel) (by decide +kernel)) (rx_ch_none (rx_ch_none (rx_ch_some (rx_k_iconst (n := 0) rfl (by decide +kernel)) (rx_ch_some (rx_k_istore (i := 5) rfl (by decide +kernel)) (rx_ch_none (rx_ch_some (rx_k_iload (i := 5) (by decide +kernel)) (rx_ch_none (rx_ch_some (rx_k_bipush (n := 12) (by decide +kernel) (by decide +kernel)) (rx_ch_none (rx_ch_some (rx_k_icmp (cnd := .ge) (off := 25) (tgt := 83) (by decide +kernel) rfl (by decide +kernel)) (rx_ch_none (rx_ch_none (rx_ch_some (rx_k_aload_n (k := 0) rfl (by decide +kernel)) (rx_ch_some (rx_k_get (idx := 145) (q := (12, 65, 3, true, false)) rfl (by decide +kernel)) (rx_ch_nil)))))))))))))))
theorem rxOK323_4 {B : bx_B} {Cn : Nat → List bx_Ct} : rx_chOK B (bx_xh B rxT Cn rxCp rxSl) rxT rxM323 64 (rxE323_4 B Cn) := rx_ch_none (rx_ch_some (rx_k_iload (i := 5) (by decide +kernel)) (rx_ch_none (rx_ch_some (rx_k_iconst (n := 0) rfl (by decide +kernel)) (rx_ch_some (rx_k_bastore (by decide +kernel)) (rx_ch_some (rx_k_aload_n (k := 0) rfl (by decide +kernel)) (rx_ch_some (rx_k_get (idx := 148) (q := (12, 66, 3, true, false)) rfl (by decide +kernel)) (rx_ch_none (rx_ch_none (rx_ch_some (rx_k_iload (i := 5) (by decide +kernel)) (rx_ch_none (rx_ch_some (rx_k_iconst (n := 0) rfl (by decide +kernel)) (rx_ch_some (rx_k_bastore (by decide +kernel)) (rx_ch_some (rx_k_iinc (i := 5) (n := 1) rfl rfl (by decide +kernel)) (rx_ch_nil))))))))))))))
theorem rxOK323_5 {B : bx_B} {Cn : Nat → List bx_Ct} : rx_chOK B (bx_xh B rxT Cn rxCp rxSl) rxT rxM323 80 (rxE323_5 B Cn) := rx_ch_some (rx_k_goto (off := (-26)) (tgt := 54) (by decide +kernel) (by decide +kernel)) (rx_ch_none (rx_ch_none (rx_ch_some (rx_k_aload_n (k := 0) rfl (by decide +kernel)) (rx_ch_some (rx_k_get (idx := 136) (q := (12, 62, 3, true, false)) rfl (by decide +kernel)) (rx_ch_none (rx_ch_none (rx_ch_some (rx_k_iconst (n := 0) rfl (by decide +kernel)) (rx_ch_some (rx_k_iconst (n := 0) rfl (by decide +kernel)) (rx_ch_some (rx_k_iastore (by decide +kernel)) (rx_ch_some (rx_k_aload_n (k := 0) rfl (by decide +kernel)) (rx_ch_some (rx_k_get (idx := 151) (q := (12, 67, 3, true, false)) rfl (by decide +kernel)) (rx_ch_none (rx_ch_none (rx_ch_some (rx_k_iconst (n := 0) rfl (by decide +kernel)) (rx_ch_some (rx_k_iconst (n := 1) rfl (by decide +kernel)) (rx_ch_nil))))))))))))))))
theorem rxOK323_6 {B : bx_B} {Cn : Nat → List bx_Ct} : rx_chOK B (bx_xh B rxT Cn rxCp rxSl) rxT rxM323 96 (rxE323_6 B Cn) := rx_ch_some (rx_k_iastore (by decide +kernel)) (rx_ch_some (rx_k_iload (i := 4) (by decide +kernel)) (rx_ch_none (rx_ch_some (rx_k_if (cnd := .ne) (off := 11) (tgt := 110) (by decide +kernel) rfl (by decide +kernel)) (rx_ch_none (rx_ch_none (rx_ch_some (rx_k_aload_n (k := 0) rfl (by decide +kernel)) (rx_ch_some (rx_k_iload_n (k := 1) rfl (by decide +kernel)) (rx_ch_some (rx_k_iload_n (k := 2) rfl (by decide +kernel)) (rx_ch_some (rx_k_iload_n (k := 3) rfl (by decide +kernel)) (rx_ch_some (rx_k_e0 (idx := 586) (how := 0) (n := 3) (ci := 12) (j_p := 319) rfl rxMt319 rfl (by decide +kernel)) (rx_ch_none (rx_ch_none (rx_ch_some (rx_k_retv rfl rfl rfl (by decide +kernel)) (rx_ch_some (rx_k_iconst (n := 0) rfl (by decide +kernel)) (rx_ch_some (rx_k_istore (i := 5) rfl (by decide +kernel)) (rx_ch_nil))))))))))))))))
theorem rxOK323_7 {B : bx_B} {Cn : Nat → List bx_Ct} : rx_chOK B (bx_xh B rxT Cn rxCp rxSl) rxT rxM323 112 (rxE323_7 B Cn) := rx_ch_none (rx_ch_some (rx_k_aload_n (k := 0) rfl (by decide +kernel)) (rx_ch_some (rx_k_get (idx := 154) (q := (12, 68, 3, true, false)) rfl (by decide +kernel)) (rx_ch_none (rx_ch_none (rx_ch_some (rx_k_iconst (n := 0) rfl (by decide +kernel)) (rx_ch_some (rx_k_iconst (n := (-1)) rfl (by decide +kernel)) (rx_ch_some (rx_k_iastore (by decide +kernel)) (rx_ch_some (rx_k_iload (i := 5) (by decide +kernel)) (rx_ch_none (rx_ch_some (rx_k_if (cnd := .lt) (off := 58) (tgt := 180) (by decide +kernel) rfl (by decide +kernel)) (rx_ch_none (rx_ch_none (rx_ch_some (rx_k_aload_n (k := 0) rfl (by decide +kernel)) (rx_ch_some (rx_k_iload (i := 5) (by decide +kernel)) (rx_ch_nil)))))))))))))))
theorem rxOK323_8 {B : bx_B} {Cn : Nat → List bx_Ct} : rx_chOK B (bx_xh B rxT Cn rxCp rxSl) rxT rxM323 128 (rxE323_8 B Cn) := rx_ch_some (rx_k_e0 (idx := 589) (how := 0) (n := 1) (ci := 12) (j_p := 320) rfl rxMt320 rfl (by decide +kernel)) (rx_ch_none (rx_ch_none (rx_ch_some (rx_k_aload_n (k := 0) rfl (by decide +kernel)) (rx_ch_some (rx_k_iload (i := 5) (by decide +kernel)) (rx_ch_none (rx_ch_some (rx_k_iload_n (k := 1) rfl (by decide +kernel)) (rx_ch_some (rx_k_e0 (idx := 592) (how := 0) (n := 2) (ci := 12) (j_p := 321) rfl rxMt321 rfl (by decide +kernel)) (rx_ch_none (rx_ch_none (rx_ch_some (rx_k_if (cnd := .eq) (off := 36) (tgt := 174) (by decide +kernel) rfl (by decide +kernel)) (rx_ch_none (rx_ch_none (rx_ch_some (rx_k_iload (i := 5) (by decide +kernel)) (rx_ch_none (rx_ch_some (rx_k_iload (i := 4) (by decide +kernel)) (rx_ch_nil))))))))))))))))
theorem rxOK323_9 {B : bx_B} {Cn : Nat → List bx_Ct} : rx_chOK B (bx_xh B rxT Cn rxCp rxSl) rxT rxM323 144 (rxE323_9 B Cn) := rx_ch_none (rx_ch_some (rx_k_iconst (n := 1) rfl (by decide +kernel)) (rx_ch_some (rx_k_isub (by decide +kernel)) (rx_ch_some (rx_k_icmp (cnd := .ne) (off := 13) (tgt := 160) (by decide +kernel) rfl (by decide +kernel)) (rx_ch_none (rx_ch_none (rx_ch_some (rx_k_aload_n (k := 0) rfl (by decide +kernel)) (rx_ch_some (rx_k_iload_n (k := 1) rfl (by decide +kernel)) (rx_ch_some (rx_k_iload_n (k := 2) rfl (by decide +kernel)) (rx_ch_some (rx_k_iload_n (k := 3) rfl (by decide +kernel)) (rx_ch_some (rx_k_e0 (idx := 586) (how := 0) (n := 3) (ci := 12) (j_p := 319) rfl rxMt319 rfl (by decide +kernel)) (rx_ch_none (rx_ch_none (rx_ch_some (rx_k_goto (off := (-37)) (tgt := 120) (by decide +kernel) (by decide +kernel)) (rx_ch_nil))))))))))))))
theorem rxOK323_10 {B : bx_B} {Cn : Nat → List bx_Ct} : rx_chOK B (bx_xh B rxT Cn rxCp rxSl) rxT rxM323 160 (rxE323_10 B Cn) := rx_ch_some (rx_k_iinc (i := 5) (n := 1) rfl rfl (by decide +kernel)) (rx_ch_none (rx_ch_none (rx_ch_some (rx_k_aload_n (k := 0) rfl (by decide +kernel)) (rx_ch_some (rx_k_get (idx := 154) (q := (12, 68, 3, true, false)) rfl (by decide +kernel)) (rx_ch_none (rx_ch_none (rx_ch_some (rx_k_iload (i := 5) (by decide +kernel)) (rx_ch_none (rx_ch_some (rx_k_iconst (n := (-1)) rfl (by decide +kernel)) (rx_ch_some (rx_k_iastore (by decide +kernel)) (rx_ch_some (rx_k_goto (off := (-51)) (tgt := 120) (by decide +kernel) (by decide +kernel)) (rx_ch_none (rx_ch_none (rx_ch_some (rx_k_iinc (i := 5) (n := (-1)) rfl rfl (by decide +kernel)) (rx_ch_nil)))))))))))))))
theorem rxOK323_11 {B : bx_B} {Cn : Nat → List bx_Ct} : rx_chOK B (bx_xh B rxT Cn rxCp rxSl) rxT rxM323 176 (rxE323_11 B Cn) := rx_ch_none (rx_ch_some (rx_k_goto (off := (-57)) (tgt := 120) (by decide +kernel) (by decide +kernel)) (rx_ch_none (rx_ch_none (rx_ch_some (rx_k_retv rfl rfl rfl (by decide +kernel)) (rx_ch_nil)))))
theorem rxOK323 {B : bx_B} {Cn : Nat → List bx_Ct} : rx_mcOK B (bx_xh B rxT Cn rxCp rxSl) rxT rxM323 0 (rxE323 B Cn) := rx_mc_cons rxOK323_0 (rx_mc_cons rxOK323_1 (rx_mc_cons rxOK323_2 (rx_mc_cons rxOK323_3 (rx_mc_cons rxOK323_4 (rx_mc_cons rxOK323_5 (rx_mc_cons rxOK323_6 (rx_mc_cons rxOK323_7 (rx_mc_cons rxOK323_8 (rx_mc_cons rxOK323_9 (rx_mc_cons rxOK323_10 (rx_mc_cons rxOK323_11 (rx_mc_nil))))))))))))
theorem rxOK324_0 {B : bx_B} {Cn : Nat → List bx_Ct} : rx_chOK B (bx_xh B rxT Cn rxCp rxSl) rxT rxM324 0 (rxE324_0 B Cn) := rx_ch_some (rx_k_aload_n (k := 0) rfl (by decide +kernel)) (rx_ch_some (rx_k_e0 (idx := 595) (how := 0) (n := 0) (ci := 12) (j_p := 322) rfl rxMt322 rfl (by decide +kernel)) (rx_ch_none (rx_ch_none (rx_ch_some (rx_k_iconst (n := 1) rfl (by decide +kernel)) (rx_ch_some (rx_k_istore_n (k := 3) rfl rfl (by decide +kernel)) (rx_ch_some (rx_k_iload_n (k := 3) rfl (by decide +kernel)) (rx_ch_some (rx_k_iconst (n := 4) rfl (by decide +kernel)) (rx_ch_some (rx_k_icmp (cnd := .ge) (off := 25) (tgt := 33) (by decide +kernel) rfl (by decide +kernel)) (rx_ch_none (rx_ch_none (rx_ch_some (rx_k_aload_n (k := 0) rfl (by decide +kernel)) (rx_ch_some (rx_k_iload_n (k := 3) rfl (by decide +kernel)) (rx_ch_some (rx_k_iload_n (k := 1) rfl (by decide +kernel)) (rx_ch_some (rx_k_iload_n (k := 2) rfl (by decide +kernel)) (rx_ch_some (rx_k_e0 (idx := 598) (how := 0) (n := 3) (ci := 12) (j_p := 323) rfl rxMt323 rfl (by decide +kernel)) (rx_ch_nil))))))))))))))))
theorem rxOK324_1 {B : bx_B} {Cn : Nat → List bx_Ct} : rx_chOK B (bx_xh B rxT Cn rxCp rxSl) rxT rxM324 16 (rxE324_1 B Cn) := rx_ch_none (rx_ch_none (rx_ch_some (rx_k_aload_n (k := 0) rfl (by decide +kernel)) (rx_ch_some (rx_k_get (idx := 580) (q := (12, 69, 0, false, false)) rfl (by decide +kernel)) (rx_ch_none (rx_ch_none (rx_ch_some (rx_k_if (cnd := .le) (off := 5) (tgt := 27) (by decide +kernel) rfl (by decide +kernel)) (rx_ch_none (rx_ch_none (rx_ch_some (rx_k_iload_n (k := 3) rfl (by decide +kernel)) (rx_ch_some (rx_k_reti rfl rfl rfl (by decide +kernel)) (rx_ch_some (rx_k_iinc (i := 3) (n := 1) rfl rfl (by decide +kernel)) (rx_ch_none (rx_ch_none (rx_ch_some (rx_k_goto (off := (-24)) (tgt := 6) (by decide +kernel) (by decide +kernel)) (rx_ch_nil)))))))))))))))
theorem rxOK324_2 {B : bx_B} {Cn : Nat → List bx_Ct} : rx_chOK B (bx_xh B rxT Cn rxCp rxSl) rxT rxM324 32 (rxE324_2 B Cn) := rx_ch_none (rx_ch_some (rx_k_iconst (n := (-1)) rfl (by decide +kernel)) (rx_ch_some (rx_k_reti rfl rfl rfl (by decide +kernel)) (rx_ch_nil)))
theorem rxOK324 {B : bx_B} {Cn : Nat → List bx_Ct} : rx_mcOK B (bx_xh B rxT Cn rxCp rxSl) rxT rxM324 0 (rxE324 B Cn) := rx_mc_cons rxOK324_0 (rx_mc_cons rxOK324_1 (rx_mc_cons rxOK324_2 (rx_mc_nil)))
theorem rxOK325_0 {B : bx_B} {Cn : Nat → List bx_Ct} : rx_chOK B (bx_xh B rxT Cn rxCp rxSl) rxT rxM325 0 (rxE325_0 B Cn) := rx_ch_some (rx_k_aload_n (k := 0) rfl (by decide +kernel)) (rx_ch_some (rx_k_aload_n (k := 0) rfl (by decide +kernel)) (rx_ch_some (rx_k_get (idx := 604) (q := (12, 71, 2, false, false)) rfl (by decide +kernel)) (rx_ch_none (rx_ch_none (rx_ch_some (rx_k_ldc2 (idx := 607) (v := 1103) rfl (by decide +kernel)) (rx_ch_none (rx_ch_none (rx_ch_some (rx_k_lmul (by decide +kernel)) (rx_ch_some (rx_k_ldc2 (idx := 609) (v := 12345) rfl (by decide +kernel)) (rx_ch_none (rx_ch_none (rx_ch_some (rx_k_ladd (by decide +kernel)) (rx_ch_some (rx_k_ldc2 (idx := 611) (v := 1000003) rfl (by decide +kernel)) (rx_ch_nil))))))))))))))
theorem rxOK325_1 {B : bx_B} {Cn : Nat → List bx_Ct} : rx_chOK B (bx_xh B rxT Cn rxCp rxSl) rxT rxM325 16 (rxE325_1 B Cn) := rx_ch_some (rx_k_lrem (by decide +kernel)) (rx_ch_some (rx_k_put (idx := 604) (q := (12, 71, 2, false, false)) rfl (by decide +kernel)) (rx_ch_none (rx_ch_none (rx_ch_some (rx_k_aload_n (k := 0) rfl (by decide +kernel)) (rx_ch_some (rx_k_get (idx := 604) (q := (12, 71, 2, false, false)) rfl (by decide +kernel)) (rx_ch_none (rx_ch_none (rx_ch_some (rx_k_iload_n (k := 1) rfl (by decide +kernel)) (rx_ch_some (rx_k_i2l (by decide +kernel)) (rx_ch_some (rx_k_lrem (by decide +kernel)) (rx_ch_some (rx_k_l2i (by decide +kernel)) (rx_ch_some (rx_k_reti rfl rfl rfl (by decide +kernel)) (rx_ch_nil)))))))))))))
theorem rxOK325 {B : bx_B} {Cn : Nat → List bx_Ct} : rx_mcOK B (bx_xh B rxT Cn rxCp rxSl) rxT rxM325 0 (rxE325 B Cn) := rx_mc_cons rxOK325_0 (rx_mc_cons rxOK325_1 (rx_mc_nil))
theorem rxGO0 {B : bx_B} {Cn : Nat → List bx_Ct} : rx_goOK B (bx_xh B rxT Cn rxCp rxSl) rxT 0 (rxEs0 B Cn) := rx_go_cons (rx_go_item (M0 := rxM0) rfl rxOK0) (rx_go_cons (rx_go_item (M0 := rxM1) rfl rxOK1) (rx_go_cons (rx_go_item (M0 := rxM2) rfl rxOK2) (rx_go_cons (rx_go_item (M0 := rxM3) rfl rxOK3) (rx_go_cons (rx_go_item (M0 := rxM4) rfl rxOK4) (rx_go_cons (rx_go_item (M0 := rxM5) rfl rxOK5) (rx_go_cons (rx_go_item (M0 := rxM6) rfl rxOK6) (rx_go_cons (rx_go_item (M0 := rxM7) rfl rxOK7) (rx_go_cons (rx_go_item (M0 := rxM8) rfl rxOK8) (rx_go_cons (rx_go_item (M0 := rxM9) rfl rxOK9) (rx_go_cons (rx_go_item (M0 := rxM10) rfl rxOK10) (rx_go_cons (rx_go_item (M0 := rxM11) rfl rxOK11) (rx_go_cons (rx_go_item (M0 := rxM12) rfl rxOK12) (rx_go_cons (rx_go_item (M0 := rxM13) rfl rxOK13) (rx_go_cons (rx_go_item (M0 := rxM14) rfl rxOK14) (rx_go_cons (rx_go_item (M0 := rxM15) rfl rxOK15) (rx_go_nil))))))))))))))))
theorem rxGO1 {B : bx_B} {Cn : Nat → List bx_Ct} : rx_goOK B (bx_xh B rxT Cn rxCp rxSl) rxT 16 (rxEs1 B Cn) := rx_go_cons (rx_go_item (M0 := rxM16) rfl rxOK16) (rx_go_cons (rx_go_item (M0 := rxM17) rfl rxOK17) (rx_go_cons (rx_go_item (M0 := rxM18) rfl rxOK18) (rx_go_cons (rx_go_item (M0 := rxM19) rfl rxOK19) (rx_go_cons (rx_go_item (M0 := rxM20) rfl rxOK20) (rx_go_cons (rx_go_item (M0 := rxM21) rfl rxOK21) (rx_go_cons (rx_go_item (M0 := rxM22) rfl rxOK22) (rx_go_cons (rx_go_item (M0 := rxM23) rfl rxOK23) (rx_go_cons (rx_go_item (M0 := rxM24) rfl rxOK24) (rx_go_cons (rx_go_item (M0 := rxM25) rfl rxOK25) (rx_go_cons (rx_go_item (M0 := rxM26) rfl rxOK26) (rx_go_cons (rx_go_item (M0 := rxM27) rfl rxOK27) (rx_go_cons (rx_go_item (M0 := rxM28) rfl rxOK28) (rx_go_cons (rx_go_item (M0 := rxM29) rfl rxOK29) (rx_go_cons (rx_go_item (M0 := rxM30) rfl rxOK30) (rx_go_cons (rx_go_item (M0 := rxM31) rfl rxOK31) (rx_go_nil))))))))))))))))
theorem rxGO2 {B : bx_B} {Cn : Nat → List bx_Ct} : rx_goOK B (bx_xh B rxT Cn rxCp rxSl) rxT 32 (rxEs2 B Cn) := rx_go_cons (rx_go_item (M0 := rxM32) rfl rxOK32) (rx_go_cons (rx_go_item (M0 := rxM33) rfl rxOK33) (rx_go_cons (rx_go_item (M0 := rxM34) rfl rxOK34) (rx_go_cons (rx_go_item (M0 := rxM35) rfl rxOK35) (rx_go_cons (rx_go_item (M0 := rxM36) rfl rxOK36) (rx_go_cons (rx_go_item (M0 := rxM37) rfl rxOK37) (rx_go_cons (rx_go_item (M0 := rxM38) rfl rxOK38) (rx_go_cons (rx_go_item (M0 := rxM39) rfl rxOK39) (rx_go_cons (rx_go_item (M0 := rxM40) rfl rxOK40) (rx_go_cons (rx_go_item (M0 := rxM41) rfl rxOK41) (rx_go_cons (rx_go_item (M0 := rxM42) rfl rxOK42) (rx_go_cons (rx_go_item (M0 := rxM43) rfl rxOK43) (rx_go_cons (rx_go_item (M0 := rxM44) rfl rxOK44) (rx_go_cons (rx_go_item (M0 := rxM45) rfl rxOK45) (rx_go_cons (rx_go_item (M0 := rxM46) rfl rxOK46) (rx_go_cons (rx_go_item (M0 := rxM47) rfl rxOK47) (rx_go_nil))))))))))))))))
theorem rxGO3 {B : bx_B} {Cn : Nat → List bx_Ct} : rx_goOK B (bx_xh B rxT Cn rxCp rxSl) rxT 48 (rxEs3 B Cn) := rx_go_cons (rx_go_item (M0 := rxM48) rfl rxOK48) (rx_go_cons (rx_go_item (M0 := rxM49) rfl rxOK49) (rx_go_cons (rx_go_item (M0 := rxM50) rfl rxOK50) (rx_go_cons (rx_go_item (M0 := rxM51) rfl rxOK51) (rx_go_cons (rx_go_item (M0 := rxM52) rfl rxOK52) (rx_go_cons (rx_go_item (M0 := rxM53) rfl rxOK53) (rx_go_cons (rx_go_item (M0 := rxM54) rfl rxOK54) (rx_go_cons (rx_go_item (M0 := rxM55) rfl rxOK55) (rx_go_cons (rx_go_item (M0 := rxM56) rfl rxOK56) (rx_go_cons (rx_go_item (M0 := rxM57) rfl rxOK57) (rx_go_cons (rx_go_item (M0 := rxM58) rfl rxOK58) (rx_go_cons (rx_go_item (M0 := rxM59) rfl rxOK59) (rx_go_cons (rx_go_item (M0 := rxM60) rfl rxOK60) (rx_go_cons (rx_go_item (M0 := rxM61) rfl rxOK61) (rx_go_cons (rx_go_item (M0 := rxM62) rfl rxOK62) (rx_go_cons (rx_go_item (M0 := rxM63) rfl rxOK63) (rx_go_nil))))))))))))))))
theorem rxGO4 {B : bx_B} {Cn : Nat → List bx_Ct} : rx_goOK B (bx_xh B rxT Cn rxCp rxSl) rxT 64 (rxEs4 B Cn) := rx_go_cons (rx_go_item (M0 := rxM64) rfl rxOK64) (rx_go_cons (rx_go_item (M0 := rxM65) rfl rxOK65) (rx_go_cons (rx_go_item (M0 := rxM66) rfl rxOK66) (rx_go_cons (rx_go_item (M0 := rxM67) rfl rxOK67) (rx_go_cons (rx_go_item (M0 := rxM68) rfl rxOK68) (rx_go_cons (rx_go_item (M0 := rxM69) rfl rxOK69) (rx_go_cons (rx_go_item (M0 := rxM70) rfl rxOK70) (rx_go_cons (rx_go_item (M0 := rxM71) rfl rxOK71) (rx_go_cons (rx_go_item (M0 := rxM72) rfl rxOK72) (rx_go_cons (rx_go_item (M0 := rxM73) rfl rxOK73) (rx_go_cons (rx_go_item (M0 := rxM74) rfl rxOK74) (rx_go_cons (rx_go_item (M0 := rxM75) rfl rxOK75) (rx_go_cons (rx_go_item (M0 := rxM76) rfl rxOK76) (rx_go_cons (rx_go_item (M0 := rxM77) rfl rxOK77) (rx_go_cons (rx_go_item (M0 := rxM78) rfl rxOK78) (rx_go_cons (rx_go_item (M0 := rxM79) rfl rxOK79) (rx_go_nil))))))))))))))))
theorem rxGO5 {B : bx_B} {Cn : Nat → List bx_Ct} : rx_goOK B (bx_xh B rxT Cn rxCp rxSl) rxT 80 (rxEs5 B Cn) := rx_go_cons (rx_go_item (M0 := rxM80) rfl rxOK80) (rx_go_cons (rx_go_item (M0 := rxM81) rfl rxOK81) (rx_go_cons (rx_go_item (M0 := rxM82) rfl rxOK82) (rx_go_cons (rx_go_item (M0 := rxM83) rfl rxOK83) (rx_go_cons (rx_go_item (M0 := rxM84) rfl rxOK84) (rx_go_cons (rx_go_item (M0 := rxM85) rfl rxOK85) (rx_go_cons (rx_go_item (M0 := rxM86) rfl rxOK86) (rx_go_cons (rx_go_item (M0 := rxM87) rfl rxOK87) (rx_go_cons (rx_go_item (M0 := rxM88) rfl rxOK88) (rx_go_cons (rx_go_item (M0 := rxM89) rfl rxOK89) (rx_go_cons (rx_go_item (M0 := rxM90) rfl rxOK90) (rx_go_cons (rx_go_item (M0 := rxM91) rfl rxOK91) (rx_go_cons (rx_go_item (M0 := rxM92) rfl rxOK92) (rx_go_cons (rx_go_item (M0 := rxM93) rfl rxOK93) (rx_go_cons (rx_go_item (M0 := rxM94) rfl rxOK94) (rx_go_cons (rx_go_item (M0 := rxM95) rfl rxOK95) (rx_go_nil))))))))))))))))
theorem rxGO6 {B : bx_B} {Cn : Nat → List bx_Ct} : rx_goOK B (bx_xh B rxT Cn rxCp rxSl) rxT 96 (rxEs6 B Cn) := rx_go_cons (rx_go_item (M0 := rxM96) rfl rxOK96) (rx_go_cons (rx_go_item (M0 := rxM97) rfl rxOK97) (rx_go_cons (rx_go_item (M0 := rxM98) rfl rxOK98) (rx_go_cons (rx_go_item (M0 := rxM99) rfl rxOK99) (rx_go_cons (rx_go_item (M0 := rxM100) rfl rxOK100) (rx_go_cons (rx_go_item (M0 := rxM101) rfl rxOK101) (rx_go_cons (rx_go_item (M0 := rxM102) rfl rxOK102) (rx_go_cons (rx_go_item (M0 := rxM103) rfl rxOK103) (rx_go_cons (rx_go_item (M0 := rxM104) rfl rxOK104) (rx_go_cons (rx_go_item (M0 := rxM105) rfl rxOK105) (rx_go_cons (rx_go_item (M0 := rxM106) rfl rxOK106) (rx_go_cons (rx_go_item (M0 := rxM107) rfl rxOK107) (rx_go_cons (rx_go_item (M0 := rxM108) rfl rxOK108) (rx_go_cons (rx_go_item (M0 := rxM109) rfl rxOK109) (rx_go_cons (rx_go_item (M0 := rxM110) rfl rxOK110) (rx_go_cons (rx_go_item (M0 := rxM111) rfl rxOK111) (rx_go_nil))))))))))))))))
theorem rxGO7 {B : bx_B} {Cn : Nat → List bx_Ct} : rx_goOK B (bx_xh B rxT Cn rxCp rxSl) rxT 112 (rxEs7 B Cn) := rx_go_cons (rx_go_item (M0 := rxM112) rfl rxOK112) (rx_go_cons (rx_go_item (M0 := rxM113) rfl rxOK113) (rx_go_cons (rx_go_item (M0 := rxM114) rfl rxOK114) (rx_go_cons (rx_go_item (M0 := rxM115) rfl rxOK115) (rx_go_cons (rx_go_item (M0 := rxM116) rfl rxOK116) (rx_go_cons (rx_go_item (M0 := rxM117) rfl rxOK117) (rx_go_cons (rx_go_item (M0 := rxM118) rfl rxOK118) (rx_go_cons (rx_go_item (M0 := rxM119) rfl rxOK119) (rx_go_cons (rx_go_item (M0 := rxM120) rfl rxOK120) (rx_go_cons (rx_go_item (M0 := rxM121) rfl rxOK121) (rx_go_cons (rx_go_item (M0 := rxM122) rfl rxOK122) (rx_go_cons (rx_go_item (M0 := rxM123) rfl rxOK123) (rx_go_cons (rx_go_item (M0 := rxM124) rfl rxOK124) (rx_go_cons (rx_go_item (M0 := rxM125) rfl rxOK125) (rx_go_cons (rx_go_item (M0 := rxM126) rfl rxOK126) (rx_go_cons (rx_go_item (M0 := rxM127) rfl rxOK127) (rx_go_nil))))))))))))))))
theorem rxGO8 {B : bx_B} {Cn : Nat → List bx_Ct} : rx_goOK B (bx_xh B rxT Cn rxCp rxSl) rxT 128 (rxEs8 B Cn) := rx_go_cons (rx_go_item (M0 := rxM128) rfl rxOK128) (rx_go_cons (rx_go_item (M0 := rxM129) rfl rxOK129) (rx_go_cons (rx_go_item (M0 := rxM130) rfl rxOK130) (rx_go_cons (rx_go_item (M0 := rxM131) rfl rxOK131) (rx_go_cons (rx_go_item (M0 := rxM132) rfl rxOK132) (rx_go_cons (rx_go_item (M0 := rxM133) rfl rxOK133) (rx_go_cons (rx_go_item (M0 := rxM134) rfl rxOK134) (rx_go_cons (rx_go_item (M0 := rxM135) rfl rxOK135) (rx_go_cons (rx_go_item (M0 := rxM136) rfl rxOK136) (rx_go_cons (rx_go_item (M0 := rxM137) rfl rxOK137) (rx_go_cons (rx_go_item (M0 := rxM138) rfl rxOK138) (rx_go_cons (rx_go_item (M0 := rxM139) rfl rxOK139) (rx_go_cons (rx_go_item (M0 := rxM140) rfl rxOK140) (rx_go_cons (rx_go_item (M0 := rxM141) rfl rxOK141) (rx_go_cons (rx_go_item (M0 := rxM142) rfl rxOK142) (rx_go_cons (rx_go_item (M0 := rxM143) rfl rxOK143) (rx_go_nil))))))))))))))))
theorem rxGO9 {B : bx_B} {Cn : Nat → List bx_Ct} : rx_goOK B (bx_xh B rxT Cn rxCp rxSl) rxT 144 (rxEs9 B Cn) := rx_go_cons (rx_go_item (M0 := rxM144) rfl rxOK144) (rx_go_cons (rx_go_item (M0 := rxM145) rfl rxOK145) (rx_go_cons (rx_go_item (M0 := rxM146) rfl rxOK146) (rx_go_cons (rx_go_item (M0 := rxM147) rfl rxOK147) (rx_go_cons (rx_go_item (M0 := rxM148) rfl rxOK148) (rx_go_cons (rx_go_item (M0 := rxM149) rfl rxOK149) (rx_go_cons (rx_go_item (M0 := rxM150) rfl rxOK150) (rx_go_cons (rx_go_item (M0 := rxM151) rfl rxOK151) (rx_go_cons (rx_go_item (M0 := rxM152) rfl rxOK152) (rx_go_cons (rx_go_item (M0 := rxM153) rfl rxOK153) (rx_go_cons (rx_go_item (M0 := rxM154) rfl rxOK154) (rx_go_cons (rx_go_item (M0 := rxM155) rfl rxOK155) (rx_go_cons (rx_go_item (M0 := rxM156) rfl rxOK156) (rx_go_cons (rx_go_item (M0 := rxM157) rfl rxOK157) (rx_go_cons (rx_go_item (M0 := rxM158) rfl rxOK158) (rx_go_cons (rx_go_item (M0 := rxM159) rfl rxOK159) (rx_go_nil))))))))))))))))
theorem rxGO10 {B : bx_B} {Cn : Nat → List bx_Ct} : rx_goOK B (bx_xh B rxT Cn rxCp rxSl) rxT 160 (rxEs10 B Cn) := rx_go_cons (rx_go_item (M0 := rxM160) rfl rxOK160) (rx_go_cons (rx_go_item (M0 := rxM161) rfl rxOK161) (rx_go_cons (rx_go_item (M0 := rxM162) rfl rxOK162) (rx_go_cons (rx_go_item (M0 := rxM163) rfl rxOK163) (rx_go_cons (rx_go_item (M0 := rxM164) rfl rxOK164) (rx_go_cons (rx_go_item (M0 := rxM165) rfl rxOK165) (rx_go_cons (rx_go_item (M0 := rxM166) rfl rxOK166) (rx_go_cons (rx_go_item (M0 := rxM167) rfl rxOK167) (rx_go_cons (rx_go_item (M0 := rxM168) rfl rxOK168) (rx_go_cons (rx_go_item (M0 := rxM169) rfl rxOK169) (rx_go_cons (rx_go_item (M0 := rxM170) rfl rxOK170) (rx_go_cons (rx_go_item (M0 := rxM171) rfl rxOK171) (rx_go_cons (rx_go_item (M0 := rxM172) rfl rxOK172) (rx_go_cons (rx_go_item (M0 := rxM173) rfl rxOK173) (rx_go_cons (rx_go_item (M0 := rxM174) rfl rxOK174) (rx_go_cons (rx_go_item (M0 := rxM175) rfl rxOK175) (rx_go_nil))))))))))))))))
theorem rxGO11 {B : bx_B} {Cn : Nat → List bx_Ct} : rx_goOK B (bx_xh B rxT Cn rxCp rxSl) rxT 176 (rxEs11 B Cn) := rx_go_cons (rx_go_item (M0 := rxM176) rfl rxOK176) (rx_go_cons (rx_go_item (M0 := rxM177) rfl rxOK177) (rx_go_cons (rx_go_item (M0 := rxM178) rfl rxOK178) (rx_go_cons (rx_go_item (M0 := rxM179) rfl rxOK179) (rx_go_cons (rx_go_item (M0 := rxM180) rfl rxOK180) (rx_go_cons (rx_go_item (M0 := rxM181) rfl rxOK181) (rx_go_cons (rx_go_item (M0 := rxM182) rfl rxOK182) (rx_go_cons (rx_go_item (M0 := rxM183) rfl rxOK183) (rx_go_cons (rx_go_item (M0 := rxM184) rfl rxOK184) (rx_go_cons (rx_go_item (M0 := rxM185) rfl rxOK185) (rx_go_cons (rx_go_item (M0 := rxM186) rfl rxOK186) (rx_go_cons (rx_go_item (M0 := rxM187) rfl rxOK187) (rx_go_cons (rx_go_item (M0 := rxM188) rfl rxOK188) (rx_go_cons (rx_go_item (M0 := rxM189) rfl rxOK189) (rx_go_cons (rx_go_item (M0 := rxM190) rfl rxOK190) (rx_go_cons (rx_go_item (M0 := rxM191) rfl rxOK191) (rx_go_nil))))))))))))))))
theorem rxGO12 {B : bx_B} {Cn : Nat → List bx_Ct} : rx_goOK B (bx_xh B rxT Cn rxCp rxSl) rxT 192 (rxEs12 B Cn) := rx_go_cons (rx_go_item (M0 := rxM192) rfl rxOK192) (rx_go_cons (rx_go_item (M0 := rxM193) rfl rxOK193) (rx_go_cons (rx_go_item (M0 := rxM194) rfl rxOK194) (rx_go_cons (rx_go_item (M0 := rxM195) rfl rxOK195) (rx_go_cons (rx_go_item (M0 := rxM196) rfl rxOK196) (rx_go_cons (rx_go_item (M0 := rxM197) rfl rxOK197) (rx_go_cons (rx_go_item (M0 := rxM198) rfl rxOK198) (rx_go_cons (rx_go_item (M0 := rxM199) rfl rxOK199) (rx_go_cons (rx_go_item (M0 := rxM200) rfl rxOK200) (rx_go_cons (rx_go_item (M0 := rxM201) rfl rxOK201) (rx_go_cons (rx_go_item (M0 := rxM202) rfl rxOK202) (rx_go_cons (rx_go_item (M0 := rxM203) rfl rxOK203) (rx_go_cons (rx_go_item (M0 := rxM204) rfl rxOK204) (rx_go_cons (rx_go_item (M0 := rxM205) rfl rxOK205) (rx_go_cons (rx_go_item (M0 := rxM206) rfl rxOK206) (rx_go_cons (rx_go_item (M0 := rxM207) rfl rxOK207) (rx_go_nil))))))))))))))))
theorem rxGO13 {B : bx_B} {Cn : Nat → List bx_Ct} : rx_goOK B (bx_xh B rxT Cn rxCp rxSl) rxT 208 (rxEs13 B Cn) := rx_go_cons (rx_go_item (M0 := rxM208) rfl rxOK208) (rx_go_cons (rx_go_item (M0 := rxM209) rfl rxOK209) (rx_go_cons (rx_go_item (M0 := rxM210) rfl rxOK210) (rx_go_cons (rx_go_item (M0 := rxM211) rfl rxOK211) (rx_go_cons (rx_go_item (M0 := rxM212) rfl rxOK212) (rx_go_cons (rx_go_item (M0 := rxM213) rfl rxOK213) (rx_go_cons (rx_go_item (M0 := rxM214) rfl rxOK214) (rx_go_cons (rx_go_item (M0 := rxM215) rfl rxOK215) (rx_go_cons (rx_go_item (M0 := rxM216) rfl rxOK216) (rx_go_cons (rx_go_item (M0 := rxM217) rfl rxOK217) (rx_go_cons (rx_go_item (M0 := rxM218) rfl rxOK218) (rx_go_cons (rx_go_item (M0 := rxM219) rfl rxOK219) (rx_go_cons (rx_go_item (M0 := rxM220) rfl rxOK220) (rx_go_cons (rx_go_item (M0 := rxM221) rfl rxOK221) (rx_go_cons (rx_go_item (M0 := rxM222) rfl rxOK222) (rx_go_cons (rx_go_item (M0 := rxM223) rfl rxOK223) (rx_go_nil))))))))))))))))
theorem rxGO14 {B : bx_B} {Cn : Nat → List bx_Ct} : rx_goOK B (bx_xh B rxT Cn rxCp rxSl) rxT 224 (rxEs14 B Cn) := rx_go_cons (rx_go_item (M0 := rxM224) rfl rxOK224) (rx_go_cons (rx_go_item (M0 := rxM225) rfl rxOK225) (rx_go_cons (rx_go_item (M0 := rxM226) rfl rxOK226) (rx_go_cons (rx_go_item (M0 := rxM227) rfl rxOK227) (rx_go_cons (rx_go_item (M0 := rxM228) rfl rxOK228) (rx_go_cons (rx_go_item (M0 := rxM229) rfl rxOK229) (rx_go_cons (rx_go_item (M0 := rxM230) rfl rxOK230) (rx_go_cons (rx_go_item (M0 := rxM231) rfl rxOK231) (rx_go_cons (rx_go_item (M0 := rxM232) rfl rxOK232) (rx_go_cons (rx_go_item (M0 := rxM233) rfl rxOK233) (rx_go_cons (rx_go_item (M0 := rxM234) rfl rxOK234) (rx_go_cons (rx_go_item (M0 := rxM235) rfl rxOK235) (rx_go_cons (rx_go_item (M0 := rxM236) rfl rxOK236) (rx_go_cons (rx_go_item (M0 := rxM237) rfl rxOK237) (rx_go_cons (rx_go_item (M0 := rxM238) rfl rxOK238) (rx_go_cons (rx_go_item (M0 := rxM239) rfl rxOK239) (rx_go_nil))))))))))))))))
theorem rxGO15 {B : bx_B} {Cn : Nat → List bx_Ct} : rx_goOK B (bx_xh B rxT Cn rxCp rxSl) rxT 240 (rxEs15 B Cn) := rx_go_cons (rx_go_item (M0 := rxM240) rfl rxOK240) (rx_go_cons (rx_go_item (M0 := rxM241) rfl rxOK241) (rx_go_cons (rx_go_item (M0 := rxM242) rfl rxOK242) (rx_go_cons (rx_go_item (M0 := rxM243) rfl rxOK243) (rx_go_cons (rx_go_item (M0 := rxM244) rfl rxOK244) (rx_go_cons (rx_go_item (M0 := rxM245) rfl rxOK245) (rx_go_cons (rx_go_item (M0 := rxM246) rfl rxOK246) (rx_go_cons (rx_go_item (M0 := rxM247) rfl rxOK247) (rx_go_cons (rx_go_item (M0 := rxM248) rfl rxOK248) (rx_go_cons (rx_go_item (M0 := rxM249) rfl rxOK249) (rx_go_cons (rx_go_item (M0 := rxM250) rfl rxOK250) (rx_go_cons (rx_go_item (M0 := rxM251) rfl rxOK251) (rx_go_cons (rx_go_item (M0 := rxM252) rfl rxOK252) (rx_go_cons (rx_go_item (M0 := rxM253) rfl rxOK253) (rx_go_cons (rx_go_item (M0 := rxM254) rfl rxOK254) (rx_go_cons (rx_go_item (M0 := rxM255) rfl rxOK255) (rx_go_nil))))))))))))))))
theorem rxGO16 {B : bx_B} {Cn : Nat → List bx_Ct} : rx_goOK B (bx_xh B rxT Cn rxCp rxSl) rxT 256 (rxEs16 B Cn) := rx_go_cons (rx_go_item (M0 := rxM256) rfl rxOK256) (rx_go_cons (rx_go_item (M0 := rxM257) rfl rxOK257) (rx_go_cons (rx_go_item (M0 := rxM258) rfl rxOK258) (rx_go_cons (rx_go_item (M0 := rxM259) rfl rxOK259) (rx_go_cons (rx_go_item (M0 := rxM260) rfl rxOK260) (rx_go_cons (rx_go_item (M0 := rxM261) rfl rxOK261) (rx_go_cons (rx_go_item (M0 := rxM262) rfl rxOK262) (rx_go_cons (rx_go_item (M0 := rxM263) rfl rxOK263) (rx_go_cons (rx_go_item (M0 := rxM264) rfl rxOK264) (rx_go_cons (rx_go_item (M0 := rxM265) rfl rxOK265) (rx_go_cons (rx_go_item (M0 := rxM266) rfl rxOK266) (rx_go_cons (rx_go_item (M0 := rxM267) rfl rxOK267) (rx_go_cons (rx_go_item (M0 := rxM268) rfl rxOK268) (rx_go_cons (rx_go_item (M0 := rxM269) rfl rxOK269) (rx_go_cons (rx_go_item (M0 := rxM270) rfl rxOK270) (rx_go_cons (rx_go_item (M0 := rxM271) rfl rxOK271) (rx_go_nil))))))))))))))))
theorem rxGO17 {B : bx_B} {Cn : Nat → List bx_Ct} : rx_goOK B (bx_xh B rxT Cn rxCp rxSl) rxT 272 (rxEs17 B Cn) := rx_go_cons (rx_go_item (M0 := rxM272) rfl rxOK272) (rx_go_cons (rx_go_item (M0 := rxM273) rfl rxOK273) (rx_go_cons (rx_go_item (M0 := rxM274) rfl rxOK274) (rx_go_cons (rx_go_item (M0 := rxM275) rfl rxOK275) (rx_go_cons (rx_go_item (M0 := rxM276) rfl rxOK276) (rx_go_cons (rx_go_item (M0 := rxM277) rfl rxOK277) (rx_go_cons (rx_go_item (M0 := rxM278) rfl rxOK278) (rx_go_cons (rx_go_item (M0 := rxM279) rfl rxOK279) (rx_go_cons (rx_go_item (M0 := rxM280) rfl rxOK280) (rx_go_cons (rx_go_item (M0 := rxM281) rfl rxOK281) (rx_go_cons (rx_go_item (M0 := rxM282) rfl rxOK282) (rx_go_cons (rx_go_item (M0 := rxM283) rfl rxOK283) (rx_go_cons (rx_go_item (M0 := rxM284) rfl rxOK284) (rx_go_cons (rx_go_item (M0 := rxM285) rfl rxOK285) (rx_go_cons (rx_go_item (M0 := rxM286) rfl rxOK286) (rx_go_cons (rx_go_item (M0 := rxM287) rfl rxOK287) (rx_go_nil))))))))))))))))
theorem rxGO18 {B : bx_B} {Cn : Nat → List bx_Ct} : rx_goOK B (bx_xh B rxT Cn rxCp rxSl) rxT 288 (rxEs18 B Cn) := rx_go_cons (rx_go_item (M0 := rxM288) rfl rxOK288) (rx_go_cons (rx_go_item (M0 := rxM289) rfl rxOK289) (rx_go_cons (rx_go_item (M0 := rxM290) rfl rxOK290) (rx_go_cons (rx_go_item (M0 := rxM291) rfl rxOK291) (rx_go_cons (rx_go_item (M0 := rxM292) rfl rxOK292) (rx_go_cons (rx_go_item (M0 := rxM293) rfl rxOK293) (rx_go_cons (rx_go_item (M0 := rxM294) rfl rxOK294) (rx_go_cons (rx_go_item (M0 := rxM295) rfl rxOK295) (rx_go_cons (rx_go_item (M0 := rxM296) rfl rxOK296) (rx_go_cons (rx_go_item (M0 := rxM297) rfl rxOK297) (rx_go_cons (rx_go_item (M0 := rxM298) rfl rxOK298) (rx_go_cons (rx_go_item (M0 := rxM299) rfl rxOK299) (rx_go_cons (rx_go_item (M0 := rxM300) rfl rxOK300) (rx_go_cons (rx_go_item (M0 := rxM301) rfl rxOK301) (rx_go_cons (rx_go_item (M0 := rxM302) rfl rxOK302) (rx_go_cons (rx_go_item (M0 := rxM303) rfl rxOK303) (rx_go_nil))))))))))))))))
theorem rxGO19 {B : bx_B} {Cn : Nat → List bx_Ct} : rx_goOK B (bx_xh B rxT Cn rxCp rxSl) rxT 304 (rxEs19 B Cn) := rx_go_cons (rx_go_item (M0 := rxM304) rfl rxOK304) (rx_go_cons (rx_go_item (M0 := rxM305) rfl rxOK305) (rx_go_cons (rx_go_item (M0 := rxM306) rfl rxOK306) (rx_go_cons (rx_go_item (M0 := rxM307) rfl rxOK307) (rx_go_cons (rx_go_item (M0 := rxM308) rfl rxOK308) (rx_go_cons (rx_go_item (M0 := rxM309) rfl rxOK309) (rx_go_cons (rx_go_item (M0 := rxM310) rfl rxOK310) (rx_go_cons (rx_go_item (M0 := rxM311) rfl rxOK311) (rx_go_cons (rx_go_item (M0 := rxM312) rfl rxOK312) (rx_go_cons (rx_go_item (M0 := rxM313) rfl rxOK313) (rx_go_cons (rx_go_item (M0 := rxM314) rfl rxOK314) (rx_go_cons (rx_go_item (M0 := rxM315) rfl rxOK315) (rx_go_cons (rx_go_item (M0 := rxM316) rfl rxOK316) (rx_go_cons (rx_go_item (M0 := rxM317) rfl rxOK317) (rx_go_cons (rx_go_item (M0 := rxM318) rfl rxOK318) (rx_go_cons (rx_go_item (M0 := rxM319) rfl rxOK319) (rx_go_nil))))))))))))))))
theorem rxGO20 {B : bx_B} {Cn : Nat → List bx_Ct} : rx_goOK B (bx_xh B rxT Cn rxCp rxSl) rxT 320 (rxEs20 B Cn) := rx_go_cons (rx_go_item (M0 := rxM320) rfl rxOK320) (rx_go_cons (rx_go_item (M0 := rxM321) rfl rxOK321) (rx_go_cons (rx_go_item (M0 := rxM322) rfl rxOK322) (rx_go_cons (rx_go_item (M0 := rxM323) rfl rxOK323) (rx_go_cons (rx_go_item (M0 := rxM324) rfl rxOK324) (rx_go_cons (rx_go_item (M0 := rxM325) rfl rxOK325) (rx_go_nil))))))
theorem rxGG {B : bx_B} {Cn : Nat → List bx_Ct} : rx_ggOK B (bx_xh B rxT Cn rxCp rxSl) rxT 0 (rxEs B Cn) := rx_gg_cons rxGO0 (rx_gg_cons rxGO1 (rx_gg_cons rxGO2 (rx_gg_cons rxGO3 (rx_gg_cons rxGO4 (rx_gg_cons rxGO5 (rx_gg_cons rxGO6 (rx_gg_cons rxGO7 (rx_gg_cons rxGO8 (rx_gg_cons rxGO9 (rx_gg_cons rxGO10 (rx_gg_cons rxGO11 (rx_gg_cons rxGO12 (rx_gg_cons rxGO13 (rx_gg_cons rxGO14 (rx_gg_cons rxGO15 (rx_gg_cons rxGO16 (rx_gg_cons rxGO17 (rx_gg_cons rxGO18 (rx_gg_cons rxGO19 (rx_gg_cons rxGO20 (rx_gg_nil)))))))))))))))))))))
theorem rxCT_ok {B : bx_B} {Cn : Nat → List bx_Ct} (j : Nat) (M : rx_Mt) (pc : Nat) (e : rx_Ent) (hm : rxT.2.2.2.2.2 j = some M) (h : rxCT B Cn j pc = some e) : rx_entOK B (bx_xh B rxT Cn rxCp rxSl) rxT M pc e := rx_fd_ok rxGG hm h
end
section
noncomputable abbrev bx_S : Type := List (Int × Int × Int × bx_T)
noncomputable abbrev bx_Pl : Type := bx_K × Nat × (List (List bx_T) ⊕ bx_S)
noncomputable def bx_sg : bx_S → Int → bx_T
  | [], _ => (0, 1, 0)
  | s :: l, j => if s.1 ≤ j ∧ j ≤ s.2.1 ∧ (j - s.1) % s.2.2.1 = 0 then s.2.2.2 else bx_sg l j
noncomputable def bx_n2 (ll : List (List bx_T)) (j : Nat) : Option bx_T := match rx_nth ll (Nat.div j 8) with
  | some l => rx_nth l (Nat.mod j 8)
  | none => none
noncomputable def bx_dT (p : bx_Pl) (j : Int) : bx_T := match p.2.2 with
  | .inl ll => match bx_n2 ll j.toNat with
    | some t => t
    | none => (0, 1, 0)
  | .inr ss => bx_sg ss j
noncomputable def bx_mi (s : Int × Int × Int × bx_T) (lo hi m : Int) : Bool := decide (s.2.1 < lo) || (decide (hi < s.1) || (decide (m % s.2.2.1 = 0) && decide (¬ (lo - s.1) % s.2.2.1 = 0)))
noncomputable def bx_un (dm : Nat → Int → Bool) (dd : Nat) (a b : bx_T) : Option bx_T := match a, b with
  | (0, l1, h1), (0, l2, h2) => some (0, if l1 ≤ l2 then l1 else l2, if h1 ≤ h2 then h2 else h1)
  | (1, t1, x), (1, t2, _) => if t1 = t2 then some (1, t1, x) else if dm dd t1 = true ∧ dm dd t2 = true then some (2, (dd : Int), 0) else none
  | (1, t1, _), (2, d2, _) => if d2 = (dd : Int) ∧ dm dd t1 = true then some (2, (dd : Int), 0) else none
  | (2, d1, _), (1, t2, _) => if d1 = (dd : Int) ∧ dm dd t2 = true then some (2, (dd : Int), 0) else none
  | (2, d1, x), (2, d2, _) => if d1 = d2 then some (2, d1, x) else none
  | _, _ => none
noncomputable def bx_rd (dm : Nat → Int → Bool) (dd : Nat) : bx_S → Int → Int → Int → Option bx_T → Option bx_T
  | [], _, _, _, acc => acc
  | s :: l, lo, hi, m, acc => match bx_mi s lo hi m with
    | true => bx_rd dm dd l lo hi m acc
    | false => match acc with
      | none => bx_rd dm dd l lo hi m (some s.2.2.2)
      | some a => match bx_un dm dd a s.2.2.2 with
        | some u => bx_rd dm dd l lo hi m (some u)
        | none => none
noncomputable def bx_wr : bx_S → Int → Int → Int → Option bx_T
  | [], _, _, _ => none
  | s :: l, lo, hi, m => match bx_mi s lo hi m with
    | true => bx_wr l lo hi m
    | false => if s.1 ≤ lo ∧ hi ≤ s.2.1 ∧ m % s.2.2.1 = 0 ∧ (lo - s.1) % s.2.2.1 = 0 then some s.2.2.2 else none
noncomputable def bx_m0 (lo hi m : Int) : Int := if lo = hi then 0 else m
theorem bx_m0_ok {lo hi m j : Int} (h1 : lo ≤ j) (h2 : j ≤ hi) (h3 : (j - lo) % m = 0) : (j - lo) % bx_m0 lo hi m = 0 := by
  unfold bx_m0
  split
  · rw [show j - lo = 0 by omega, Int.zero_emod]
  · exact h3
noncomputable def bx_dR (dm : Nat → Int → Bool) (p : bx_Pl) (lo hi m : Int) : Option bx_T := match p.2.2 with
  | .inl ll => if lo = hi ∧ 0 ≤ lo then bx_n2 ll lo.toNat else none
  | .inr ss => bx_rd dm p.2.1 ss lo hi (bx_m0 lo hi m) none
noncomputable def bx_dW (p : bx_Pl) (lo hi m : Int) : Option bx_T := match p.2.2 with
  | .inl ll => if lo = hi ∧ 0 ≤ lo then bx_n2 ll lo.toNat else none
  | .inr ss => bx_wr ss lo hi (bx_m0 lo hi m)
noncomputable def bx_shT (q : Int) (t : bx_T) : bx_T := match t with
  | (1, o, x) => (1, q + o, x)
  | t => t
noncomputable def bx_shP (q : Int) (p : bx_Pl) : bx_Pl := (p.1, p.2.1, match p.2.2 with
  | .inl ll => .inl (ll.map (fun l => l.map (bx_shT q)))
  | .inr ss => .inr (ss.map (fun s => (s.1, s.2.1, s.2.2.1, bx_shT q s.2.2.2))))
theorem bx_mi_ok {s : Int × Int × Int × bx_T} {lo hi m j : Int} (h1 : lo ≤ j) (h2 : j ≤ hi) (h3 : (j - lo) % m = 0) (h4 : s.1 ≤ j ∧ j ≤ s.2.1 ∧ (j - s.1) % s.2.2.1 = 0) : bx_mi s lo hi m = false := by
  unfold bx_mi
  rw [decide_eq_false (by omega), decide_eq_false (by omega), Bool.false_or, Bool.false_or]
  refine Bool.eq_false_iff.mpr fun h => ?_
  rw [Bool.and_eq_true, decide_eq_true_eq, decide_eq_true_eq] at h
  refine h.2 ?_
  have e1 : s.2.2.1 ∣ m := Int.dvd_of_emod_eq_zero h.1
  have e2 : m ∣ j - lo := Int.dvd_of_emod_eq_zero h3
  have e3 : s.2.2.1 ∣ j - s.1 := Int.dvd_of_emod_eq_zero h4.2.2
  have e4 : s.2.2.1 ∣ (j - s.1) - (j - lo) := Int.dvd_sub e3 (Int.dvd_trans e1 e2)
  rw [show (j - s.1) - (j - lo) = lo - s.1 by omega] at e4
  exact Int.emod_eq_zero_of_dvd e4
section BXV
variable {L : bx_L} {q : Int}
theorem bx_okR_un {dm : Nat → Int → Bool} {dd : Nat} (hdm : dm = L.2.2.2) (hq : q = 0) {a b u : bx_T} {v : Int} (h : bx_un dm dd a b = some u) : (bx_okR L q a v → bx_okR L q u v) ∧ (bx_okR L q b v → bx_okR L q u v) := by
  subst hdm; subst hq
  unfold bx_un at h
  split at h
  · rename_i l1 h1 l2 h2
    cases h
    refine ⟨fun h => ?_, fun h => ?_⟩
    · have h : l1 ≤ v ∧ v ≤ h1 := h
      show (if _ then _ else _ : Int) ≤ v ∧ v ≤ (if _ then _ else _ : Int)
      constructor <;> split <;> omega
    · have h : l2 ≤ v ∧ v ≤ h2 := h
      show (if _ then _ else _ : Int) ≤ v ∧ v ≤ (if _ then _ else _ : Int)
      constructor <;> split <;> omega
  · rename_i t1 x t2 y
    split at h
    · rename_i e
      subst e
      cases h
      exact ⟨id, id⟩
    · split at h
      · rename_i hc
        cases h
        refine ⟨fun h => ?_, fun h => ?_⟩
        · have h : v = 0 + t1 := h
          show L.2.2.2 ((dd : Int).toNat) v = true
          rw [h, Int.zero_add, Int.toNat_natCast]
          exact hc.1
        · have h : v = 0 + t2 := h
          show L.2.2.2 ((dd : Int).toNat) v = true
          rw [h, Int.zero_add, Int.toNat_natCast]
          exact hc.2
      · cases h
  · rename_i t1 x d2 y
    split at h
    · rename_i hc
      obtain ⟨hc1, hc2⟩ := hc
      subst hc1
      cases h
      refine ⟨fun h => ?_, id⟩
      have h : v = 0 + t1 := h
      show L.2.2.2 ((dd : Int).toNat) v = true
      rw [h, Int.zero_add, Int.toNat_natCast]
      exact hc2
    · cases h
  · rename_i d1 x t2 y
    split at h
    · rename_i hc
      obtain ⟨hc1, hc2⟩ := hc
      subst hc1
      cases h
      refine ⟨id, fun h => ?_⟩
      have h : v = 0 + t2 := h
      show L.2.2.2 ((dd : Int).toNat) v = true
      rw [h, Int.zero_add, Int.toNat_natCast]
      exact hc2
    · cases h
  · split at h
    · rename_i e
      subst e
      cases h
      exact ⟨id, id⟩
    · cases h
  · cases h
theorem bx_okR_unN {dm : Nat → Int → Bool} {dd : Nat} (hdm : ∀ t, dm dd t = false) {a b u : bx_T} {v : Int} (h : bx_un dm dd a b = some u) : (bx_okR L q a v → bx_okR L q u v) ∧ (bx_okR L q b v → bx_okR L q u v) := by
  unfold bx_un at h
  split at h
  · rename_i l1 h1 l2 h2
    cases h
    refine ⟨fun h => ?_, fun h => ?_⟩
    · have h : l1 ≤ v ∧ v ≤ h1 := h
      show (if _ then _ else _ : Int) ≤ v ∧ v ≤ (if _ then _ else _ : Int)
      constructor <;> split <;> omega
    · have h : l2 ≤ v ∧ v ≤ h2 := h
      show (if _ then _ else _ : Int) ≤ v ∧ v ≤ (if _ then _ else _ : Int)
      constructor <;> split <;> omega
  · split at h
    · rename_i e
      subst e
      cases h
      exact ⟨id, id⟩
    · rw [if_neg (fun hc => by rw [hdm] at hc; exact Bool.false_ne_true hc.1)] at h
      cases h
  · rw [if_neg (fun hc => by rw [hdm] at hc; exact Bool.false_ne_true hc.2)] at h
    cases h
  · rw [if_neg (fun hc => by rw [hdm] at hc; exact Bool.false_ne_true hc.2)] at h
    cases h
  · split at h
    · rename_i e
      subst e
      cases h
      exact ⟨id, id⟩
    · cases h
  · cases h
theorem bx_rd_ok {dm : Nat → Int → Bool} {dd : Nat} (hun : ∀ {a b u : bx_T} {v : Int}, bx_un dm dd a b = some u → (bx_okR L q a v → bx_okR L q u v) ∧ (bx_okR L q b v → bx_okR L q u v)) {lo hi m j v : Int} (h1 : lo ≤ j) (h2 : j ≤ hi) (h3 : (j - lo) % m = 0) : ∀ {ss : bx_S} {acc : Option bx_T} {t : bx_T}, bx_rd dm dd ss lo hi m acc = some t → (∀ a, acc = some a → bx_okR L q a v → bx_okR L q t v) ∧ (bx_okR L q (bx_sg ss j) v → ¬ bx_sg ss j = (0, 1, 0) → bx_okR L q t v)
  | [], acc, t, h => by
    have h : acc = some t := h
    subst h
    exact ⟨fun a ha => by cases ha; exact id, fun _ hn => absurd rfl hn⟩
  | s :: l, acc, t, h => by
    have hcase : bx_sg (s :: l) j = if s.1 ≤ j ∧ j ≤ s.2.1 ∧ (j - s.1) % s.2.2.1 = 0 then s.2.2.2 else bx_sg l j := rfl
    unfold bx_rd at h
    split at h
    · rename_i hm
      obtain ⟨g1, g2⟩ := bx_rd_ok hun h1 h2 h3 h
      refine ⟨g1, ?_⟩
      rw [hcase, if_neg (fun hc => by rw [bx_mi_ok h1 h2 h3 hc] at hm; exact Bool.false_ne_true hm)]
      exact g2
    · split at h
      · obtain ⟨g1, g2⟩ := bx_rd_ok hun h1 h2 h3 h
        refine ⟨fun a ha => (by cases ha), ?_⟩
        rw [hcase]
        split
        · exact fun hv _ => g1 _ rfl hv
        · exact g2
      · rename_i a
        split at h
        · rename_i u hu
          obtain ⟨g1, g2⟩ := bx_rd_ok hun h1 h2 h3 h
          refine ⟨fun a_p ha => ?_, ?_⟩
          · cases ha
            exact fun hv => g1 _ rfl ((hun hu).1 hv)
          · rw [hcase]
            split
            · exact fun hv _ => g1 _ rfl ((hun hu).2 hv)
            · exact g2
        · cases h
theorem bx_wr_ok {lo hi m j : Int} (h1 : lo ≤ j) (h2 : j ≤ hi) (h3 : (j - lo) % m = 0) : ∀ {ss : bx_S} {t : bx_T}, bx_wr ss lo hi m = some t → bx_sg ss j = t
  | [], t, h => by cases h
  | s :: l, t, h => by
    have hcase : bx_sg (s :: l) j = if s.1 ≤ j ∧ j ≤ s.2.1 ∧ (j - s.1) % s.2.2.1 = 0 then s.2.2.2 else bx_sg l j := rfl
    rw [bx_wr] at h
    split at h
    · rename_i hm
      rw [hcase, if_neg (fun hc => by rw [bx_mi_ok h1 h2 h3 hc] at hm; exact Bool.false_ne_true hm)]
      exact bx_wr_ok h1 h2 h3 h
    · split at h
      · rename_i hc
        obtain ⟨c1, c2, c3, c4⟩ := hc
        cases h
        have e1 : s.2.2.1 ∣ m := Int.dvd_of_emod_eq_zero c3
        have e2 : m ∣ j - lo := Int.dvd_of_emod_eq_zero h3
        have e3 : s.2.2.1 ∣ lo - s.1 := Int.dvd_of_emod_eq_zero c4
        have e4 : s.2.2.1 ∣ (j - lo) + (lo - s.1) := Int.dvd_add (Int.dvd_trans e1 e2) e3
        rw [show (j - lo) + (lo - s.1) = j - s.1 by omega] at e4
        rw [hcase, if_pos ⟨by omega, by omega, Int.emod_eq_zero_of_dvd e4⟩]
      · cases h
theorem bx_dR_ok {dm : Nat → Int → Bool} {p : bx_Pl} (hun : ∀ {a b u : bx_T} {v : Int}, bx_un dm p.2.1 a b = some u → (bx_okR L q a v → bx_okR L q u v) ∧ (bx_okR L q b v → bx_okR L q u v)) {lo hi m j v : Int} {t : bx_T} (h : bx_dR dm p lo hi m = some t) (h1 : lo ≤ j) (h2 : j ≤ hi) (h3 : (j - lo) % m = 0) (hv : bx_okR L q (bx_dT p j) v) : bx_okR L q t v := by
  unfold bx_dR at h
  unfold bx_dT at hv
  split at h
  · rename_i ll hp
    rw [hp] at hv
    dsimp only at hv
    split at h
    · rename_i hc
      have e : j = lo := by omega
      subst e
      rw [h] at hv
      exact hv
    · cases h
  · rename_i ss hp
    rw [hp] at hv
    dsimp only at hv
    refine (bx_rd_ok hun h1 h2 (bx_m0_ok h1 h2 h3) h).2 hv fun h0 => ?_
    rw [h0] at hv
    have hv : (1 : Int) ≤ v ∧ v ≤ 0 := hv
    omega
theorem bx_dW_ok {p : bx_Pl} {lo hi m j : Int} {t : bx_T} (h : bx_dW p lo hi m = some t) (h1 : lo ≤ j) (h2 : j ≤ hi) (h3 : (j - lo) % m = 0) : bx_dT p j = t := by
  unfold bx_dW at h
  unfold bx_dT
  split at h
  · rename_i ll hp
    split at h
    · rename_i hc
      have e : j = lo := by omega
      subst e
      rw [h]
    · cases h
  · rename_i ss hp
    exact bx_wr_ok h1 h2 (bx_m0_ok h1 h2 h3) h
theorem bx_n2_map {g : bx_T → bx_T} {ll : List (List bx_T)} {j : Nat} : bx_n2 (ll.map (fun l => l.map g)) j = (bx_n2 ll j).map g := by
  have hn : ∀ {α β : Type} (g : α → β) (l : List α) (k : Nat), rx_nth (l.map g) k = (rx_nth l k).map g := by
    intro α β g l
    induction l with
    | nil => intro k; rfl
    | cons a l ih =>
      intro k
      cases k with
      | zero => rfl
      | succ k => exact ih k
  unfold bx_n2
  rw [hn]
  cases rx_nth ll (Nat.div j 8) with
  | none => rfl
  | some l => exact hn g l _
theorem bx_sg_map {ss : bx_S} {j : Int} : bx_sg (ss.map (fun s => (s.1, s.2.1, s.2.2.1, bx_shT q s.2.2.2))) j = bx_shT q (bx_sg ss j) := by
  induction ss with
  | nil => rfl
  | cons s l ih =>
    show (if s.1 ≤ j ∧ j ≤ s.2.1 ∧ (j - s.1) % s.2.2.1 = 0 then bx_shT q s.2.2.2 else bx_sg (l.map _) j) = bx_shT q (if _ then _ else _)
    split
    · rfl
    · exact ih
theorem bx_dT_sh {p : bx_Pl} {j : Int} : bx_dT (bx_shP q p) j = bx_shT q (bx_dT p j) := by
  obtain ⟨k, dd, sp⟩ := p
  unfold bx_dT bx_shP
  cases sp with
  | inl ll =>
    dsimp only
    rw [bx_n2_map]
    cases bx_n2 ll j.toNat with
    | none => rfl
    | some t => rfl
  | inr ss => exact bx_sg_map
theorem bx_okT_sh {t : bx_T} {v : Int} : bx_okT L (bx_shT q t) v ↔ bx_okR L q t v := by
  obtain ⟨k, a, b⟩ := t
  match k with
  | 0 => exact Iff.rfl
  | 1 => exact Iff.rfl
  | k + 2 => exact Iff.rfl
end BXV
noncomputable abbrev bx_Dt : Type := (Nat → Option bx_Pl) × (Nat → List Int) × (Nat → Int → Option bx_Pl)
noncomputable def bx_dmf (ds : Nat → List Int) (d : Nat) (q : Int) : Bool := match Nat.ble 2000000 d with
  | true => decide (q = 0)
  | false => (ds d).any (fun a => decide (a = q))
noncomputable def bx_Lof (np : Nat) (t : bx_Dt) : bx_L := (fun p => match t.1 p with
  | some x => x.1
  | none => .inr (0, 0, 0), np, fun p j => match t.1 p with
  | some x => bx_dT x j
  | none => (0, 1, 0), bx_dmf t.2.1)
noncomputable def bx_see (np : Nat) (t : bx_Dt) (d : Option Nat) (off : Int) : Option bx_Pl := match d with
  | none => if 0 ≤ off ∧ off < (np : Int) then t.1 off.toNat else none
  | some d => t.2.2 d off
noncomputable def bx_nod : Nat → Int → Bool := fun _ _ => false
noncomputable def bx_dmo (t : bx_Dt) (d : Option Nat) : Nat → Int → Bool := match d with
  | none => bx_dmf t.2.1
  | some _ => bx_nod
noncomputable def bx_Vof (np : Nat) (t : bx_Dt) : bx_V := (fun d off => (bx_see np t d off).map (fun p => p.1),
  fun d off lo hi m => match bx_see np t d off with
    | some p => bx_dR (bx_dmo t d) p lo hi m
    | none => none,
  fun d off lo hi m => match bx_see np t d off with
    | some p => bx_dW p lo hi m
    | none => none)
noncomputable def bx_Dok (np : Nat) (t : bx_Dt) : Prop := (∀ d q, bx_dmf t.2.1 d q = true → 0 ≤ q ∧ q ≤ (np : Int) + 1000) ∧ ∀ (d : Nat) (off : Int) (p : bx_Pl), t.2.2 d off = some p → ∀ q : Int, bx_dmf t.2.1 d q = true → 0 ≤ q + off ∧ q + off < (np : Int) ∧ t.1 (q + off).toNat = some (bx_shP q p)
theorem bx_shP0 {p : bx_Pl} : bx_shP 0 p = p := by
  have h0 : ∀ t : bx_T, bx_shT 0 t = t := fun t => by
    obtain ⟨k, a, b⟩ := t
    match k with
    | 0 => rfl
    | 1 => show (1, 0 + a, b) = (1, a, b); rw [Int.zero_add]
    | k + 2 => rfl
  obtain ⟨k, dd, sp⟩ := p
  unfold bx_shP
  have h1 : bx_shT 0 = id := funext h0
  cases sp with
  | inl ll => rw [h1]; simp
  | inr ss => rw [h1]; simp
theorem bx_VOK_of {np : Nat} {t : bx_Dt} (h : bx_Dok np t) : bx_VOK (bx_Lof np t) (bx_Vof np t) := by
  have hsee : ∀ (d : Option Nat) (off : Int) (p : bx_Pl) (q : Int), bx_see np t d off = some p → bx_in (bx_Lof np t) d q → 0 ≤ q + off ∧ (q + off).toNat < np ∧ t.1 (q + off).toNat = some (bx_shP q p) := fun d off p q hs hin => by
    unfold bx_see at hs
    cases d with
    | none =>
      have hin : q = 0 := hin
      subst hin
      dsimp only at hs
      split at hs
      · rename_i hc
        rw [Int.zero_add, bx_shP0]
        exact ⟨hc.1, by omega, hs⟩
      · cases hs
    | some d =>
      obtain ⟨a, b, c⟩ := h.2 d off p hs q hin
      exact ⟨a, by omega, c⟩
  refine ⟨fun d off k hk q hin => ?_, fun d off lo hi m tt ht q hin j v h1 h2 h3 hv => ?_, fun d off lo hi m tt ht q hin j v h1 h2 h3 hv => ?_, h.1, fun d hd => ?_⟩
  · obtain ⟨p, hp, rfl⟩ := Option.map_eq_some_iff.mp hk
    obtain ⟨a, b, c⟩ := hsee d off p q hp hin
    refine ⟨a, b, ?_⟩
    show (match t.1 (q + off).toNat with
      | some x => x.1
      | none => .inr (0, 0, 0) : bx_K) = p.1
    rw [c]
    rfl
  · have ht : (match bx_see np t d off with
      | some p => bx_dR (bx_dmo t d) p lo hi m
      | none => none) = some tt := ht
    split at ht
    · rename_i p hp
      obtain ⟨a, b, c⟩ := hsee d off p q hp hin
      have hv : bx_okT (bx_Lof np t) (match t.1 (q + off).toNat with
        | some x => bx_dT x j
        | none => (0, 1, 0)) v := hv
      rw [c] at hv
      have hv : bx_okT (bx_Lof np t) (bx_dT (bx_shP q p) j) v := hv
      rw [bx_dT_sh, bx_okT_sh] at hv
      refine bx_dR_ok (fun {a b u v} hu => ?_) ht h1 h2 h3 hv
      cases d with
      | none => exact bx_okR_un (L := bx_Lof np t) rfl hin hu
      | some d => exact bx_okR_unN (fun _ => rfl) hu
    · cases ht
  · have ht : (match bx_see np t d off with
      | some p => bx_dW p lo hi m
      | none => none) = some tt := ht
    split at ht
    · rename_i p hp
      obtain ⟨a, b, c⟩ := hsee d off p q hp hin
      show bx_okT (bx_Lof np t) (match t.1 (q + off).toNat with
        | some x => bx_dT x j
        | none => (0, 1, 0)) v
      rw [c]
      show bx_okT (bx_Lof np t) (bx_dT (bx_shP q p) j) v
      rw [bx_dT_sh, bx_okT_sh, bx_dW_ok ht h1 h2 h3]
      exact hv
    · cases ht
  · show bx_dmf t.2.1 d 0 = true
    unfold bx_dmf
    rw [Nat.ble_eq_true_of_le hd]
    rfl
end
