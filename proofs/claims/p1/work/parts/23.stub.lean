theorem z_prog_ok (xs : List Int32) : z_OK (z_G xs) (z_nm z_M) (z_bt z_M) (z_cl0 z_CT) z_atys (z_Ts (k2_sels lw_privs)) z_Ns z_rsl := sorry
