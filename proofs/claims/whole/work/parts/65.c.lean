/-! kinds of the reference's tokens, one by one -/
theorem mks_0 {tk wo K : Int} (h : mkd tk wo = K) : tk = 0 ↔ K = 0 := (mkd_iff h).1
theorem mks_3 {tk wo K : Int} (h : mkd tk wo = K) : tk = 1 ↔ K = 3 := (mkd_iff h).2.1
theorem mks_41 {tk wo K : Int} (h : mkd tk wo = K) : tk = 4 ↔ K = 41 := (mkd_iff h).2.2.1
theorem mks_43 {tk wo K : Int} (h : mkd tk wo = K) : tk = 5 ↔ K = 43 := (mkd_iff h).2.2.2.1
theorem mks_40 {tk wo K : Int} (h : mkd tk wo = K) : tk = 60 ↔ K = 40 := (mkd_iff h).2.2.2.2.1
theorem mks_42 {tk wo K : Int} (h : mkd tk wo = K) : tk = 62 ↔ K = 42 := (mkd_iff h).2.2.2.2.2.1
theorem mks_44 {tk wo K : Int} (h : mkd tk wo = K) : tk = 61 ↔ K = 44 := (mkd_iff h).2.2.2.2.2.2.1
theorem mks_45 {tk wo K : Int} (h : mkd tk wo = K) : tk = 35 ↔ K = 45 := (mkd_iff h).2.2.2.2.2.2.2.1
theorem mks_46 {tk wo K : Int} (h : mkd tk wo = K) : tk = 43 ↔ K = 46 := (mkd_iff h).2.2.2.2.2.2.2.2.1
theorem mks_47 {tk wo K : Int} (h : mkd tk wo = K) : tk = 45 ↔ K = 47 := (mkd_iff h).2.2.2.2.2.2.2.2.2.1
theorem mks_48 {tk wo K : Int} (h : mkd tk wo = K) : tk = 42 ↔ K = 48 := (mkd_iff h).2.2.2.2.2.2.2.2.2.2.1
theorem mks_49 {tk wo K : Int} (h : mkd tk wo = K) : tk = 47 ↔ K = 49 := (mkd_iff h).2.2.2.2.2.2.2.2.2.2.2.1
theorem mks_50 {tk wo K : Int} (h : mkd tk wo = K) : tk = 40 ↔ K = 50 := (mkd_iff h).2.2.2.2.2.2.2.2.2.2.2.2.1
theorem mks_51 {tk wo K : Int} (h : mkd tk wo = K) : tk = 41 ↔ K = 51 := (mkd_iff h).2.2.2.2.2.2.2.2.2.2.2.2.2.1
theorem mks_52 {tk wo K : Int} (h : mkd tk wo = K) : tk = 59 ↔ K = 52 := (mkd_iff h).2.2.2.2.2.2.2.2.2.2.2.2.2.2.1
theorem mks_53 {tk wo K : Int} (h : mkd tk wo = K) : tk = 63 ↔ K = 53 := (mkd_iff h).2.2.2.2.2.2.2.2.2.2.2.2.2.2.2.1
theorem mks_54 {tk wo K : Int} (h : mkd tk wo = K) : tk = 58 ↔ K = 54 := (mkd_iff h).2.2.2.2.2.2.2.2.2.2.2.2.2.2.2.2.1
theorem mkw_10 {tk wo K : Int} (h : mkd tk wo = K) : (tk = 2 ∧ wo = 1953459308) ↔ K = 10 := (mkd_w h).1
theorem mkw_11 {tk wo K : Int} (h : mkd tk wo = K) : (tk = 2 ∧ wo = 1920295539) ↔ K = 11 := (mkd_w h).2.1
theorem mkw_12 {tk wo K : Int} (h : mkd tk wo = K) : (tk = 2 ∧ wo = 7364985) ↔ K = 12 := (mkd_w h).2.2.1
theorem mkw_13 {tk wo K : Int} (h : mkd tk wo = K) : (tk = 2 ∧ wo = 444300619380) ↔ K = 13 := (mkd_w h).2.2.2.1
theorem mkw_14 {tk wo K : Int} (h : mkd tk wo = K) : (tk = 2 ∧ wo = 1885434739) ↔ K = 14 := (mkd_w h).2.2.2.2.1
theorem mkw_15 {tk wo K : Int} (h : mkd tk wo = K) : (tk = 2 ∧ wo = 28518) ↔ K = 15 := (mkd_w h).2.2.2.2.2.1
theorem mkw_16 {tk wo K : Int} (h : mkd tk wo = K) : (tk = 2 ∧ wo = 1718775661) ↔ K = 16 := (mkd_w h).2.2.2.2.2.2.1
theorem mkw_17 {tk wo K : Int} (h : mkd tk wo = K) : (tk = 2 ∧ wo = 29807) ↔ K = 17 := (mkd_w h).2.2.2.2.2.2.2.1
theorem mkw_18 {tk wo K : Int} (h : mkd tk wo = K) : (tk = 2 ∧ wo = 26982) ↔ K = 18 := (mkd_w h).2.2.2.2.2.2.2.2.1
theorem mkw_19 {tk wo K : Int} (h : mkd tk wo = K) : (tk = 2 ∧ wo = 6647396) ↔ K = 19 := (mkd_w h).2.2.2.2.2.2.2.2.2.1
theorem mkw_20 {tk wo K : Int} (h : mkd tk wo = K) : (tk = 2 ∧ wo = 28530) ↔ K = 20 := (mkd_w h).2.2.2.2.2.2.2.2.2.2.1
theorem mkw_21 {tk wo K : Int} (h : mkd tk wo = K) : (tk = 2 ∧ wo = 6385252) ↔ K = 21 := (mkd_w h).2.2.2.2.2.2.2.2.2.2.2.1
theorem mkw_22 {tk wo K : Int} (h : mkd tk wo = K) : (tk = 2 ∧ wo = 7237492) ↔ K = 22 := (mkd_w h).2.2.2.2.2.2.2.2.2.2.2.2.1
theorem mkw_23 {tk wo K : Int} (h : mkd tk wo = K) : (tk = 2 ∧ wo = 7825519) ↔ K = 23 := (mkd_w h).2.2.2.2.2.2.2.2.2.2.2.2.2.1
theorem mkw_24 {tk wo K : Int} (h : mkd tk wo = K) : (tk = 2 ∧ wo = 469786323827) ↔ K = 24 := (mkd_w h).2.2.2.2.2.2.2.2.2.2.2.2.2.2.1
theorem mkw_25 {tk wo K : Int} (h : mkd tk wo = K) : (tk = 2 ∧ wo = 6578553) ↔ K = 25 := (mkd_w h).2.2.2.2.2.2.2.2.2.2.2.2.2.2.2.1
theorem mkw_26 {tk wo K : Int} (h : mkd tk wo = K) : (tk = 2 ∧ wo = 1885432164) ↔ K = 26 := (mkd_w h).2.2.2.2.2.2.2.2.2.2.2.2.2.2.2.2.1
theorem mkw_27 {tk wo K : Int} (h : mkd tk wo = K) : (tk = 2 ∧ wo = 1919251316) ↔ K = 27 := (mkd_w h).2.2.2.2.2.2.2.2.2.2.2.2.2.2.2.2.2.1
theorem mkw_28 {tk wo K : Int} (h : mkd tk wo = K) : (tk = 2 ∧ wo = 32488805071480179) ↔ K = 28 := (mkd_w h).2.2.2.2.2.2.2.2.2.2.2.2.2.2.2.2.2.2.1
theorem mkw_29 {tk wo K : Int} (h : mkd tk wo = K) : (tk = 2 ∧ wo = 7824756) ↔ K = 29 := (mkd_w h).2.2.2.2.2.2.2.2.2.2.2.2.2.2.2.2.2.2.2
