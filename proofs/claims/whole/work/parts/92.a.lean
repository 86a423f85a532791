/-! THE CHECK OF THE TABLES, 4: decided, in blocks (by emit92.py) -/
noncomputable def am_ckM (b : Nat) : Bool := (List.range 20).all (fun k => if b * 20 + k < 285 then am_chkM am_Mt am_mx (b * 20 + k) (am_mpq (b * 20 + k)) else true)
theorem am_ckM0 : am_ckM 0 = true := by decide +kernel
theorem am_ckM1 : am_ckM 1 = true := by decide +kernel
theorem am_ckM2 : am_ckM 2 = true := by decide +kernel
theorem am_ckM3 : am_ckM 3 = true := by decide +kernel
theorem am_ckM4 : am_ckM 4 = true := by decide +kernel
theorem am_ckM5 : am_ckM 5 = true := by decide +kernel
theorem am_ckM6 : am_ckM 6 = true := by decide +kernel
theorem am_ckM7 : am_ckM 7 = true := by decide +kernel
theorem am_ckM8 : am_ckM 8 = true := by decide +kernel
theorem am_ckM9 : am_ckM 9 = true := by decide +kernel
theorem am_ckM10 : am_ckM 10 = true := by decide +kernel
theorem am_ckM11 : am_ckM 11 = true := by decide +kernel
theorem am_ckM12 : am_ckM 12 = true := by decide +kernel
theorem am_ckM13 : am_ckM 13 = true := by decide +kernel
theorem am_ckM14 : am_ckM 14 = true := by decide +kernel
set_option maxRecDepth 20000 in
theorem am_cd0 : Jvm.Cond.code (am_Mt 0).1 (am_Mt 0).2.1 (am_mx 0) (am_Mt 0).2.2 ∈ lw_tbl := am_wd_in (p := (1, 99)) rfl
set_option maxRecDepth 20000 in
theorem am_cd1 : Jvm.Cond.code (am_Mt 1).1 (am_Mt 1).2.1 (am_mx 1) (am_Mt 1).2.2 ∈ lw_tbl := am_wd_in (p := (2, 213)) rfl
set_option maxRecDepth 20000 in
theorem am_cd2 : Jvm.Cond.code (am_Mt 2).1 (am_Mt 2).2.1 (am_mx 2) (am_Mt 2).2.2 ∈ lw_tbl := am_wd_in (p := (2, 239)) rfl
set_option maxRecDepth 20000 in
theorem am_cd3 : Jvm.Cond.code (am_Mt 3).1 (am_Mt 3).2.1 (am_mx 3) (am_Mt 3).2.2 ∈ lw_tbl := am_wd_in (p := (3, 10)) rfl
set_option maxRecDepth 20000 in
theorem am_cd4 : Jvm.Cond.code (am_Mt 4).1 (am_Mt 4).2.1 (am_mx 4) (am_Mt 4).2.2 ∈ lw_tbl := am_wd_in (p := (3, 39)) rfl
set_option maxRecDepth 20000 in
theorem am_cd5 : Jvm.Cond.code (am_Mt 5).1 (am_Mt 5).2.1 (am_mx 5) (am_Mt 5).2.2 ∈ lw_tbl := am_wd_in (p := (3, 23)) rfl
set_option maxRecDepth 20000 in
theorem am_cd6 : Jvm.Cond.code (am_Mt 6).1 (am_Mt 6).2.1 (am_mx 6) (am_Mt 6).2.2 ∈ lw_tbl := am_wd_in (p := (4, 71)) rfl
set_option maxRecDepth 20000 in
theorem am_cd7 : Jvm.Cond.code (am_Mt 7).1 (am_Mt 7).2.1 (am_mx 7) (am_Mt 7).2.2 ∈ lw_tbl := am_wd_in (p := (4, 42)) rfl
set_option maxRecDepth 20000 in
theorem am_cd8 : Jvm.Cond.code (am_Mt 8).1 (am_Mt 8).2.1 (am_mx 8) (am_Mt 8).2.2 ∈ lw_tbl := am_wd_in (p := (4, 50)) rfl
set_option maxRecDepth 20000 in
theorem am_cd9 : Jvm.Cond.code (am_Mt 9).1 (am_Mt 9).2.1 (am_mx 9) (am_Mt 9).2.2 ∈ lw_tbl := am_wd_in (p := (4, 55)) rfl
set_option maxRecDepth 20000 in
theorem am_cd10 : Jvm.Cond.code (am_Mt 10).1 (am_Mt 10).2.1 (am_mx 10) (am_Mt 10).2.2 ∈ lw_tbl := am_wd_in (p := (4, 237)) rfl
set_option maxRecDepth 20000 in
theorem am_cd11 : Jvm.Cond.code (am_Mt 11).1 (am_Mt 11).2.1 (am_mx 11) (am_Mt 11).2.2 ∈ lw_tbl := am_wd_in (p := (1, 93)) rfl
set_option maxRecDepth 20000 in
theorem am_cd12 : Jvm.Cond.code (am_Mt 12).1 (am_Mt 12).2.1 (am_mx 12) (am_Mt 12).2.2 ∈ lw_tbl := am_wd_in (p := (2, 192)) rfl
set_option maxRecDepth 20000 in
theorem am_cd13 : Jvm.Cond.code (am_Mt 13).1 (am_Mt 13).2.1 (am_mx 13) (am_Mt 13).2.2 ∈ lw_tbl := am_wd_in (p := (2, 218)) rfl
set_option maxRecDepth 20000 in
theorem am_cd14 : Jvm.Cond.code (am_Mt 14).1 (am_Mt 14).2.1 (am_mx 14) (am_Mt 14).2.2 ∈ lw_tbl := am_wd_in (p := (3, 19)) rfl
set_option maxRecDepth 20000 in
theorem am_cd15 : Jvm.Cond.code (am_Mt 15).1 (am_Mt 15).2.1 (am_mx 15) (am_Mt 15).2.2 ∈ lw_tbl := am_wd_in (p := (4, 67)) rfl
set_option maxRecDepth 20000 in
theorem am_cd16 : Jvm.Cond.code (am_Mt 16).1 (am_Mt 16).2.1 (am_mx 16) (am_Mt 16).2.2 ∈ lw_tbl := am_wd_in (p := (1, 144)) rfl
set_option maxRecDepth 20000 in
theorem am_cd17 : Jvm.Cond.code (am_Mt 17).1 (am_Mt 17).2.1 (am_mx 17) (am_Mt 17).2.2 ∈ lw_tbl := am_wd_in (p := (3, 54)) rfl
set_option maxRecDepth 20000 in
theorem am_cd18 : Jvm.Cond.code (am_Mt 18).1 (am_Mt 18).2.1 (am_mx 18) (am_Mt 18).2.2 ∈ lw_tbl := am_wd_in (p := (3, 58)) rfl
set_option maxRecDepth 20000 in
theorem am_cd19 : Jvm.Cond.code (am_Mt 19).1 (am_Mt 19).2.1 (am_mx 19) (am_Mt 19).2.2 ∈ lw_tbl := am_wd_in (p := (3, 65)) rfl
set_option maxRecDepth 20000 in
theorem am_cd20 : Jvm.Cond.code (am_Mt 20).1 (am_Mt 20).2.1 (am_mx 20) (am_Mt 20).2.2 ∈ lw_tbl := am_wd_in (p := (3, 110)) rfl
set_option maxRecDepth 20000 in
theorem am_cd21 : Jvm.Cond.code (am_Mt 21).1 (am_Mt 21).2.1 (am_mx 21) (am_Mt 21).2.2 ∈ lw_tbl := am_wd_in (p := (3, 114)) rfl
set_option maxRecDepth 20000 in
theorem am_cd22 : Jvm.Cond.code (am_Mt 22).1 (am_Mt 22).2.1 (am_mx 22) (am_Mt 22).2.2 ∈ lw_tbl := am_wd_in (p := (3, 118)) rfl
set_option maxRecDepth 20000 in
theorem am_cd23 : Jvm.Cond.code (am_Mt 23).1 (am_Mt 23).2.1 (am_mx 23) (am_Mt 23).2.2 ∈ lw_tbl := am_wd_in (p := (3, 122)) rfl
set_option maxRecDepth 20000 in
theorem am_cd24 : Jvm.Cond.code (am_Mt 24).1 (am_Mt 24).2.1 (am_mx 24) (am_Mt 24).2.2 ∈ lw_tbl := am_wd_in (p := (3, 75)) rfl
set_option maxRecDepth 20000 in
theorem am_cd25 : Jvm.Cond.code (am_Mt 25).1 (am_Mt 25).2.1 (am_mx 25) (am_Mt 25).2.2 ∈ lw_tbl := am_wd_in (p := (3, 79)) rfl
set_option maxRecDepth 20000 in
theorem am_cd26 : Jvm.Cond.code (am_Mt 26).1 (am_Mt 26).2.1 (am_mx 26) (am_Mt 26).2.2 ∈ lw_tbl := am_wd_in (p := (3, 99)) rfl
set_option maxRecDepth 20000 in
theorem am_cd27 : Jvm.Cond.code (am_Mt 27).1 (am_Mt 27).2.1 (am_mx 27) (am_Mt 27).2.2 ∈ lw_tbl := am_wd_in (p := (3, 83)) rfl
set_option maxRecDepth 20000 in
theorem am_cd28 : Jvm.Cond.code (am_Mt 28).1 (am_Mt 28).2.1 (am_mx 28) (am_Mt 28).2.2 ∈ lw_tbl := am_wd_in (p := (1, 43)) rfl
set_option maxRecDepth 20000 in
theorem am_cd29 : Jvm.Cond.code (am_Mt 29).1 (am_Mt 29).2.1 (am_mx 29) (am_Mt 29).2.2 ∈ lw_tbl := am_wd_in (p := (2, 162)) rfl
set_option maxRecDepth 20000 in
theorem am_cd30 : Jvm.Cond.code (am_Mt 30).1 (am_Mt 30).2.1 (am_mx 30) (am_Mt 30).2.2 ∈ lw_tbl := am_wd_in (p := (3, 221)) rfl
set_option maxRecDepth 20000 in
theorem am_cd31 : Jvm.Cond.code (am_Mt 31).1 (am_Mt 31).2.1 (am_mx 31) (am_Mt 31).2.2 ∈ lw_tbl := am_wd_in (p := (3, 27)) rfl
set_option maxRecDepth 20000 in
theorem am_cd32 : Jvm.Cond.code (am_Mt 32).1 (am_Mt 32).2.1 (am_mx 32) (am_Mt 32).2.2 ∈ lw_tbl := am_wd_in (p := (4, 18)) rfl
set_option maxRecDepth 20000 in
theorem am_cd33 : Jvm.Cond.code (am_Mt 33).1 (am_Mt 33).2.1 (am_mx 33) (am_Mt 33).2.2 ∈ lw_tbl := am_wd_in (p := (2, 170)) rfl
set_option maxRecDepth 20000 in
theorem am_cd34 : Jvm.Cond.code (am_Mt 34).1 (am_Mt 34).2.1 (am_mx 34) (am_Mt 34).2.2 ∈ lw_tbl := am_wd_in (p := (2, 174)) rfl
set_option maxRecDepth 20000 in
theorem am_cd35 : Jvm.Cond.code (am_Mt 35).1 (am_Mt 35).2.1 (am_mx 35) (am_Mt 35).2.2 ∈ lw_tbl := am_wd_in (p := (4, 212)) rfl
set_option maxRecDepth 20000 in
theorem am_cd36 : Jvm.Cond.code (am_Mt 36).1 (am_Mt 36).2.1 (am_mx 36) (am_Mt 36).2.2 ∈ lw_tbl := am_wd_in (p := (4, 75)) rfl
set_option maxRecDepth 20000 in
theorem am_cd37 : Jvm.Cond.code (am_Mt 37).1 (am_Mt 37).2.1 (am_mx 37) (am_Mt 37).2.2 ∈ lw_tbl := am_wd_in (p := (2, 64)) rfl
set_option maxRecDepth 20000 in
theorem am_cd38 : Jvm.Cond.code (am_Mt 38).1 (am_Mt 38).2.1 (am_mx 38) (am_Mt 38).2.2 ∈ lw_tbl := am_wd_in (p := (4, 22)) rfl
set_option maxRecDepth 20000 in
theorem am_cd39 : Jvm.Cond.code (am_Mt 39).1 (am_Mt 39).2.1 (am_mx 39) (am_Mt 39).2.2 ∈ lw_tbl := am_wd_in (p := (6, 74)) rfl
set_option maxRecDepth 20000 in
theorem am_cd40 : Jvm.Cond.code (am_Mt 40).1 (am_Mt 40).2.1 (am_mx 40) (am_Mt 40).2.2 ∈ lw_tbl := am_wd_in (p := (5, 195)) rfl
set_option maxRecDepth 20000 in
theorem am_cd41 : Jvm.Cond.code (am_Mt 41).1 (am_Mt 41).2.1 (am_mx 41) (am_Mt 41).2.2 ∈ lw_tbl := am_wd_in (p := (5, 134)) rfl
set_option maxRecDepth 20000 in
theorem am_cd42 : Jvm.Cond.code (am_Mt 42).1 (am_Mt 42).2.1 (am_mx 42) (am_Mt 42).2.2 ∈ lw_tbl := am_wd_in (p := (5, 111)) rfl
set_option maxRecDepth 20000 in
theorem am_cd43 : Jvm.Cond.code (am_Mt 43).1 (am_Mt 43).2.1 (am_mx 43) (am_Mt 43).2.2 ∈ lw_tbl := am_wd_in (p := (5, 121)) rfl
set_option maxRecDepth 20000 in
theorem am_cd44 : Jvm.Cond.code (am_Mt 44).1 (am_Mt 44).2.1 (am_mx 44) (am_Mt 44).2.2 ∈ lw_tbl := am_wd_in (p := (5, 144)) rfl
set_option maxRecDepth 20000 in
theorem am_cd45 : Jvm.Cond.code (am_Mt 45).1 (am_Mt 45).2.1 (am_mx 45) (am_Mt 45).2.2 ∈ lw_tbl := am_wd_in (p := (5, 148)) rfl
set_option maxRecDepth 20000 in
theorem am_cd46 : Jvm.Cond.code (am_Mt 46).1 (am_Mt 46).2.1 (am_mx 46) (am_Mt 46).2.2 ∈ lw_tbl := am_wd_in (p := (5, 153)) rfl
set_option maxRecDepth 20000 in
theorem am_cd47 : Jvm.Cond.code (am_Mt 47).1 (am_Mt 47).2.1 (am_mx 47) (am_Mt 47).2.2 ∈ lw_tbl := am_wd_in (p := (5, 205)) rfl
set_option maxRecDepth 20000 in
theorem am_cd48 : Jvm.Cond.code (am_Mt 48).1 (am_Mt 48).2.1 (am_mx 48) (am_Mt 48).2.2 ∈ lw_tbl := am_wd_in (p := (5, 209)) rfl
set_option maxRecDepth 20000 in
theorem am_cd49 : Jvm.Cond.code (am_Mt 49).1 (am_Mt 49).2.1 (am_mx 49) (am_Mt 49).2.2 ∈ lw_tbl := am_wd_in (p := (5, 214)) rfl
set_option maxRecDepth 20000 in
theorem am_cd50 : Jvm.Cond.code (am_Mt 50).1 (am_Mt 50).2.1 (am_mx 50) (am_Mt 50).2.2 ∈ lw_tbl := am_wd_in (p := (1, 62)) rfl
set_option maxRecDepth 20000 in
theorem am_cd51 : Jvm.Cond.code (am_Mt 51).1 (am_Mt 51).2.1 (am_mx 51) (am_Mt 51).2.2 ∈ lw_tbl := am_wd_in (p := (2, 198)) rfl
set_option maxRecDepth 20000 in
theorem am_cd52 : Jvm.Cond.code (am_Mt 52).1 (am_Mt 52).2.1 (am_mx 52) (am_Mt 52).2.2 ∈ lw_tbl := am_wd_in (p := (3, 16)) rfl
set_option maxRecDepth 20000 in
theorem am_cd53 : Jvm.Cond.code (am_Mt 53).1 (am_Mt 53).2.1 (am_mx 53) (am_Mt 53).2.2 ∈ lw_tbl := am_wd_in (p := (2, 206)) rfl
set_option maxRecDepth 20000 in
theorem am_cd54 : Jvm.Cond.code (am_Mt 54).1 (am_Mt 54).2.1 (am_mx 54) (am_Mt 54).2.2 ∈ lw_tbl := am_wd_in (p := (3, 92)) rfl
set_option maxRecDepth 20000 in
theorem am_cd55 : Jvm.Cond.code (am_Mt 55).1 (am_Mt 55).2.1 (am_mx 55) (am_Mt 55).2.2 ∈ lw_tbl := am_wd_in (p := (3, 45)) rfl
set_option maxRecDepth 20000 in
theorem am_cd56 : Jvm.Cond.code (am_Mt 56).1 (am_Mt 56).2.1 (am_mx 56) (am_Mt 56).2.2 ∈ lw_tbl := am_wd_in (p := (3, 6)) rfl
set_option maxRecDepth 20000 in
theorem am_cd57 : Jvm.Cond.code (am_Mt 57).1 (am_Mt 57).2.1 (am_mx 57) (am_Mt 57).2.2 ∈ lw_tbl := am_wd_in (p := (3, 143)) rfl
set_option maxRecDepth 20000 in
theorem am_cd58 : Jvm.Cond.code (am_Mt 58).1 (am_Mt 58).2.1 (am_mx 58) (am_Mt 58).2.2 ∈ lw_tbl := am_wd_in (p := (2, 224)) rfl
set_option maxRecDepth 20000 in
theorem am_cd59 : Jvm.Cond.code (am_Mt 59).1 (am_Mt 59).2.1 (am_mx 59) (am_Mt 59).2.2 ∈ lw_tbl := am_wd_in (p := (2, 235)) rfl
set_option maxRecDepth 20000 in
theorem am_cd60 : Jvm.Cond.code (am_Mt 60).1 (am_Mt 60).2.1 (am_mx 60) (am_Mt 60).2.2 ∈ lw_tbl := am_wd_in (p := (3, 51)) rfl
set_option maxRecDepth 20000 in
theorem am_cd61 : Jvm.Cond.code (am_Mt 61).1 (am_Mt 61).2.1 (am_mx 61) (am_Mt 61).2.2 ∈ lw_tbl := am_wd_in (p := (2, 34)) rfl
set_option maxRecDepth 20000 in
theorem am_cd62 : Jvm.Cond.code (am_Mt 62).1 (am_Mt 62).2.1 (am_mx 62) (am_Mt 62).2.2 ∈ lw_tbl := am_wd_in (p := (4, 14)) rfl
set_option maxRecDepth 20000 in
theorem am_cd63 : Jvm.Cond.code (am_Mt 63).1 (am_Mt 63).2.1 (am_mx 63) (am_Mt 63).2.2 ∈ lw_tbl := am_wd_in (p := (5, 77)) rfl
set_option maxRecDepth 20000 in
theorem am_cd64 : Jvm.Cond.code (am_Mt 64).1 (am_Mt 64).2.1 (am_mx 64) (am_Mt 64).2.2 ∈ lw_tbl := am_wd_in (p := (5, 37)) rfl
set_option maxRecDepth 20000 in
theorem am_cd65 : Jvm.Cond.code (am_Mt 65).1 (am_Mt 65).2.1 (am_mx 65) (am_Mt 65).2.2 ∈ lw_tbl := am_wd_in (p := (5, 54)) rfl
set_option maxRecDepth 20000 in
theorem am_cd66 : Jvm.Cond.code (am_Mt 66).1 (am_Mt 66).2.1 (am_mx 66) (am_Mt 66).2.2 ∈ lw_tbl := am_wd_in (p := (5, 87)) rfl
set_option maxRecDepth 20000 in
theorem am_cd67 : Jvm.Cond.code (am_Mt 67).1 (am_Mt 67).2.1 (am_mx 67) (am_Mt 67).2.2 ∈ lw_tbl := am_wd_in (p := (5, 32)) rfl
set_option maxRecDepth 20000 in
theorem am_cd68 : Jvm.Cond.code (am_Mt 68).1 (am_Mt 68).2.1 (am_mx 68) (am_Mt 68).2.2 ∈ lw_tbl := am_wd_in (p := (5, 60)) rfl
set_option maxRecDepth 20000 in
theorem am_cd69 : Jvm.Cond.code (am_Mt 69).1 (am_Mt 69).2.1 (am_mx 69) (am_Mt 69).2.2 ∈ lw_tbl := am_wd_in (p := (1, 199)) rfl
set_option maxRecDepth 20000 in
theorem am_cd70 : Jvm.Cond.code (am_Mt 70).1 (am_Mt 70).2.1 (am_mx 70) (am_Mt 70).2.2 ∈ lw_tbl := am_wd_in (p := (3, 204)) rfl
set_option maxRecDepth 20000 in
theorem am_cd71 : Jvm.Cond.code (am_Mt 71).1 (am_Mt 71).2.1 (am_mx 71) (am_Mt 71).2.2 ∈ lw_tbl := am_wd_in (p := (3, 209)) rfl
set_option maxRecDepth 20000 in
theorem am_cd72 : Jvm.Cond.code (am_Mt 72).1 (am_Mt 72).2.1 (am_mx 72) (am_Mt 72).2.2 ∈ lw_tbl := am_wd_in (p := (3, 213)) rfl
set_option maxRecDepth 20000 in
theorem am_cd73 : Jvm.Cond.code (am_Mt 73).1 (am_Mt 73).2.1 (am_mx 73) (am_Mt 73).2.2 ∈ lw_tbl := am_wd_in (p := (3, 229)) rfl
set_option maxRecDepth 20000 in
theorem am_cd74 : Jvm.Cond.code (am_Mt 74).1 (am_Mt 74).2.1 (am_mx 74) (am_Mt 74).2.2 ∈ lw_tbl := am_wd_in (p := (4, 59)) rfl
set_option maxRecDepth 20000 in
theorem am_cd75 : Jvm.Cond.code (am_Mt 75).1 (am_Mt 75).2.1 (am_mx 75) (am_Mt 75).2.2 ∈ lw_tbl := am_wd_in (p := (4, 152)) rfl
set_option maxRecDepth 20000 in
theorem am_cd76 : Jvm.Cond.code (am_Mt 76).1 (am_Mt 76).2.1 (am_mx 76) (am_Mt 76).2.2 ∈ lw_tbl := am_wd_in (p := (4, 46)) rfl
set_option maxRecDepth 20000 in
theorem am_cd77 : Jvm.Cond.code (am_Mt 77).1 (am_Mt 77).2.1 (am_mx 77) (am_Mt 77).2.2 ∈ lw_tbl := am_wd_in (p := (3, 217)) rfl
set_option maxRecDepth 20000 in
theorem am_cd78 : Jvm.Cond.code (am_Mt 78).1 (am_Mt 78).2.1 (am_mx 78) (am_Mt 78).2.2 ∈ lw_tbl := am_wd_in (p := (4, 190)) rfl
set_option maxRecDepth 20000 in
theorem am_cd79 : Jvm.Cond.code (am_Mt 79).1 (am_Mt 79).2.1 (am_mx 79) (am_Mt 79).2.2 ∈ lw_tbl := am_wd_in (p := (4, 194)) rfl
set_option maxRecDepth 20000 in
theorem am_cd80 : Jvm.Cond.code (am_Mt 80).1 (am_Mt 80).2.1 (am_mx 80) (am_Mt 80).2.2 ∈ lw_tbl := am_wd_in (p := (3, 225)) rfl
set_option maxRecDepth 20000 in
theorem am_cd81 : Jvm.Cond.code (am_Mt 81).1 (am_Mt 81).2.1 (am_mx 81) (am_Mt 81).2.2 ∈ lw_tbl := am_wd_in (p := (5, 46)) rfl
set_option maxRecDepth 20000 in
theorem am_cd82 : Jvm.Cond.code (am_Mt 82).1 (am_Mt 82).2.1 (am_mx 82) (am_Mt 82).2.2 ∈ lw_tbl := am_wd_in (p := (5, 50)) rfl
set_option maxRecDepth 20000 in
theorem am_cd83 : Jvm.Cond.code (am_Mt 83).1 (am_Mt 83).2.1 (am_mx 83) (am_Mt 83).2.2 ∈ lw_tbl := am_wd_in (p := (6, 10)) rfl
set_option maxRecDepth 20000 in
theorem am_cd84 : Jvm.Cond.code (am_Mt 84).1 (am_Mt 84).2.1 (am_mx 84) (am_Mt 84).2.2 ∈ lw_tbl := am_wd_in (p := (5, 19)) rfl
set_option maxRecDepth 20000 in
theorem am_cd85 : Jvm.Cond.code (am_Mt 85).1 (am_Mt 85).2.1 (am_mx 85) (am_Mt 85).2.2 ∈ lw_tbl := am_wd_in (p := (5, 91)) rfl
set_option maxRecDepth 20000 in
theorem am_cd86 : Jvm.Cond.code (am_Mt 86).1 (am_Mt 86).2.1 (am_mx 86) (am_Mt 86).2.2 ∈ lw_tbl := am_wd_in (p := (1, 59)) rfl
set_option maxRecDepth 20000 in
theorem am_cd87 : Jvm.Cond.code (am_Mt 87).1 (am_Mt 87).2.1 (am_mx 87) (am_Mt 87).2.2 ∈ lw_tbl := am_wd_in (p := (3, 131)) rfl
set_option maxRecDepth 20000 in
theorem am_cd88 : Jvm.Cond.code (am_Mt 88).1 (am_Mt 88).2.1 (am_mx 88) (am_Mt 88).2.2 ∈ lw_tbl := am_wd_in (p := (3, 150)) rfl
set_option maxRecDepth 20000 in
theorem am_cd89 : Jvm.Cond.code (am_Mt 89).1 (am_Mt 89).2.1 (am_mx 89) (am_Mt 89).2.2 ∈ lw_tbl := am_wd_in (p := (3, 200)) rfl
set_option maxRecDepth 20000 in
theorem am_cd90 : Jvm.Cond.code (am_Mt 90).1 (am_Mt 90).2.1 (am_mx 90) (am_Mt 90).2.2 ∈ lw_tbl := am_wd_in (p := (3, 233)) rfl
set_option maxRecDepth 20000 in
theorem am_cd91 : Jvm.Cond.code (am_Mt 91).1 (am_Mt 91).2.1 (am_mx 91) (am_Mt 91).2.2 ∈ lw_tbl := am_wd_in (p := (3, 237)) rfl
set_option maxRecDepth 20000 in
theorem am_cd92 : Jvm.Cond.code (am_Mt 92).1 (am_Mt 92).2.1 (am_mx 92) (am_Mt 92).2.2 ∈ lw_tbl := am_wd_in (p := (4, 1)) rfl
set_option maxRecDepth 20000 in
theorem am_cd93 : Jvm.Cond.code (am_Mt 93).1 (am_Mt 93).2.1 (am_mx 93) (am_Mt 93).2.2 ∈ lw_tbl := am_wd_in (p := (1, 232)) rfl
set_option maxRecDepth 20000 in
theorem am_cd94 : Jvm.Cond.code (am_Mt 94).1 (am_Mt 94).2.1 (am_mx 94) (am_Mt 94).2.2 ∈ lw_tbl := am_wd_in (p := (4, 5)) rfl
set_option maxRecDepth 20000 in
theorem am_cd95 : Jvm.Cond.code (am_Mt 95).1 (am_Mt 95).2.1 (am_mx 95) (am_Mt 95).2.2 ∈ lw_tbl := am_wd_in (p := (6, 56)) rfl
set_option maxRecDepth 20000 in
theorem am_cd96 : Jvm.Cond.code (am_Mt 96).1 (am_Mt 96).2.1 (am_mx 96) (am_Mt 96).2.2 ∈ lw_tbl := am_wd_in (p := (4, 198)) rfl
set_option maxRecDepth 20000 in
theorem am_cd97 : Jvm.Cond.code (am_Mt 97).1 (am_Mt 97).2.1 (am_mx 97) (am_Mt 97).2.2 ∈ lw_tbl := am_wd_in (p := (4, 160)) rfl
set_option maxRecDepth 20000 in
theorem am_cd98 : Jvm.Cond.code (am_Mt 98).1 (am_Mt 98).2.1 (am_mx 98) (am_Mt 98).2.2 ∈ lw_tbl := am_wd_in (p := (4, 177)) rfl
set_option maxRecDepth 20000 in
theorem am_cd99 : Jvm.Cond.code (am_Mt 99).1 (am_Mt 99).2.1 (am_mx 99) (am_Mt 99).2.2 ∈ lw_tbl := am_wd_in (p := (5, 126)) rfl
set_option maxRecDepth 20000 in
theorem am_cd100 : Jvm.Cond.code (am_Mt 100).1 (am_Mt 100).2.1 (am_mx 100) (am_Mt 100).2.2 ∈ lw_tbl := am_wd_in (p := (6, 22)) rfl
set_option maxRecDepth 20000 in
theorem am_cd101 : Jvm.Cond.code (am_Mt 101).1 (am_Mt 101).2.1 (am_mx 101) (am_Mt 101).2.2 ∈ lw_tbl := am_wd_in (p := (4, 186)) rfl
set_option maxRecDepth 20000 in
theorem am_cd102 : Jvm.Cond.code (am_Mt 102).1 (am_Mt 102).2.1 (am_mx 102) (am_Mt 102).2.2 ∈ lw_tbl := am_wd_in (p := (4, 181)) rfl
set_option maxRecDepth 20000 in
theorem am_cd103 : Jvm.Cond.code (am_Mt 103).1 (am_Mt 103).2.1 (am_mx 103) (am_Mt 103).2.2 ∈ lw_tbl := am_wd_in (p := (5, 27)) rfl
set_option maxRecDepth 20000 in
theorem am_cd104 : Jvm.Cond.code (am_Mt 104).1 (am_Mt 104).2.1 (am_mx 104) (am_Mt 104).2.2 ∈ lw_tbl := am_wd_in (p := (4, 203)) rfl
set_option maxRecDepth 20000 in
theorem am_cd105 : Jvm.Cond.code (am_Mt 105).1 (am_Mt 105).2.1 (am_mx 105) (am_Mt 105).2.2 ∈ lw_tbl := am_wd_in (p := (4, 233)) rfl
set_option maxRecDepth 20000 in
theorem am_cd106 : Jvm.Cond.code (am_Mt 106).1 (am_Mt 106).2.1 (am_mx 106) (am_Mt 106).2.2 ∈ lw_tbl := am_wd_in (p := (5, 1)) rfl
set_option maxRecDepth 20000 in
theorem am_cd107 : Jvm.Cond.code (am_Mt 107).1 (am_Mt 107).2.1 (am_mx 107) (am_Mt 107).2.2 ∈ lw_tbl := am_wd_in (p := (6, 32)) rfl
set_option maxRecDepth 20000 in
theorem am_cd108 : Jvm.Cond.code (am_Mt 108).1 (am_Mt 108).2.1 (am_mx 108) (am_Mt 108).2.2 ∈ lw_tbl := am_wd_in (p := (6, 18)) rfl
set_option maxRecDepth 20000 in
theorem am_cd109 : Jvm.Cond.code (am_Mt 109).1 (am_Mt 109).2.1 (am_mx 109) (am_Mt 109).2.2 ∈ lw_tbl := am_wd_in (p := (6, 44)) rfl
set_option maxRecDepth 20000 in
theorem am_cd110 : Jvm.Cond.code (am_Mt 110).1 (am_Mt 110).2.1 (am_mx 110) (am_Mt 110).2.2 ∈ lw_tbl := am_wd_in (p := (6, 48)) rfl
set_option maxRecDepth 20000 in
theorem am_cd111 : Jvm.Cond.code (am_Mt 111).1 (am_Mt 111).2.1 (am_mx 111) (am_Mt 111).2.2 ∈ lw_tbl := am_wd_in (p := (4, 207)) rfl
set_option maxRecDepth 20000 in
theorem am_cd112 : Jvm.Cond.code (am_Mt 112).1 (am_Mt 112).2.1 (am_mx 112) (am_Mt 112).2.2 ∈ lw_tbl := am_wd_in (p := (5, 10)) rfl
set_option maxRecDepth 20000 in
theorem am_cd113 : Jvm.Cond.code (am_Mt 113).1 (am_Mt 113).2.1 (am_mx 113) (am_Mt 113).2.2 ∈ lw_tbl := am_wd_in (p := (6, 70)) rfl
set_option maxRecDepth 20000 in
theorem am_cd114 : Jvm.Cond.code (am_Mt 114).1 (am_Mt 114).2.1 (am_mx 114) (am_Mt 114).2.2 ∈ lw_tbl := am_wd_in (p := (4, 9)) rfl
set_option maxRecDepth 20000 in
theorem am_cd115 : Jvm.Cond.code (am_Mt 115).1 (am_Mt 115).2.1 (am_mx 115) (am_Mt 115).2.2 ∈ lw_tbl := am_wd_in (p := (1, 128)) rfl
set_option maxRecDepth 20000 in
theorem am_cd116 : Jvm.Cond.code (am_Mt 116).1 (am_Mt 116).2.1 (am_mx 116) (am_Mt 116).2.2 ∈ lw_tbl := am_wd_in (p := (3, 162)) rfl
set_option maxRecDepth 20000 in
theorem am_cd117 : Jvm.Cond.code (am_Mt 117).1 (am_Mt 117).2.1 (am_mx 117) (am_Mt 117).2.2 ∈ lw_tbl := am_wd_in (p := (4, 140)) rfl
set_option maxRecDepth 20000 in
theorem am_cd118 : Jvm.Cond.code (am_Mt 118).1 (am_Mt 118).2.1 (am_mx 118) (am_Mt 118).2.2 ∈ lw_tbl := am_wd_in (p := (1, 35)) rfl
set_option maxRecDepth 20000 in
theorem am_cd119 : Jvm.Cond.code (am_Mt 119).1 (am_Mt 119).2.1 (am_mx 119) (am_Mt 119).2.2 ∈ lw_tbl := am_wd_in (p := (2, 158)) rfl
set_option maxRecDepth 20000 in
theorem am_cd120 : Jvm.Cond.code (am_Mt 120).1 (am_Mt 120).2.1 (am_mx 120) (am_Mt 120).2.2 ∈ lw_tbl := am_wd_in (p := (2, 166)) rfl
set_option maxRecDepth 20000 in
theorem am_cd121 : Jvm.Cond.code (am_Mt 121).1 (am_Mt 121).2.1 (am_mx 121) (am_Mt 121).2.2 ∈ lw_tbl := am_wd_in (p := (2, 178)) rfl
set_option maxRecDepth 20000 in
theorem am_cd122 : Jvm.Cond.code (am_Mt 122).1 (am_Mt 122).2.1 (am_mx 122) (am_Mt 122).2.2 ∈ lw_tbl := am_wd_in (p := (2, 182)) rfl
set_option maxRecDepth 20000 in
theorem am_cd123 : Jvm.Cond.code (am_Mt 123).1 (am_Mt 123).2.1 (am_mx 123) (am_Mt 123).2.2 ∈ lw_tbl := am_wd_in (p := (2, 186)) rfl
set_option maxRecDepth 20000 in
theorem am_cd124 : Jvm.Cond.code (am_Mt 124).1 (am_Mt 124).2.1 (am_mx 124) (am_Mt 124).2.2 ∈ lw_tbl := am_wd_in (p := (3, 180)) rfl
set_option maxRecDepth 20000 in
theorem am_cd125 : Jvm.Cond.code (am_Mt 125).1 (am_Mt 125).2.1 (am_mx 125) (am_Mt 125).2.2 ∈ lw_tbl := am_wd_in (p := (3, 184)) rfl
set_option maxRecDepth 20000 in
theorem am_cd126 : Jvm.Cond.code (am_Mt 126).1 (am_Mt 126).2.1 (am_mx 126) (am_Mt 126).2.2 ∈ lw_tbl := am_wd_in (p := (3, 192)) rfl
set_option maxRecDepth 20000 in
theorem am_cd127 : Jvm.Cond.code (am_Mt 127).1 (am_Mt 127).2.1 (am_mx 127) (am_Mt 127).2.2 ∈ lw_tbl := am_wd_in (p := (4, 143)) rfl
set_option maxRecDepth 20000 in
theorem am_cd128 : Jvm.Cond.code (am_Mt 128).1 (am_Mt 128).2.1 (am_mx 128) (am_Mt 128).2.2 ∈ lw_tbl := am_wd_in (p := (3, 196)) rfl
set_option maxRecDepth 20000 in
theorem am_cd129 : Jvm.Cond.code (am_Mt 129).1 (am_Mt 129).2.1 (am_mx 129) (am_Mt 129).2.2 ∈ lw_tbl := am_wd_in (p := (4, 169)) rfl
set_option maxRecDepth 20000 in
theorem am_cd130 : Jvm.Cond.code (am_Mt 130).1 (am_Mt 130).2.1 (am_mx 130) (am_Mt 130).2.2 ∈ lw_tbl := am_wd_in (p := (4, 229)) rfl
set_option maxRecDepth 20000 in
theorem am_cd131 : Jvm.Cond.code (am_Mt 131).1 (am_Mt 131).2.1 (am_mx 131) (am_Mt 131).2.2 ∈ lw_tbl := am_wd_in (p := (5, 107)) rfl
set_option maxRecDepth 20000 in
theorem am_cd132 : Jvm.Cond.code (am_Mt 132).1 (am_Mt 132).2.1 (am_mx 132) (am_Mt 132).2.2 ∈ lw_tbl := am_wd_in (p := (2, 227)) rfl
set_option maxRecDepth 20000 in
theorem am_cd133 : Jvm.Cond.code (am_Mt 133).1 (am_Mt 133).2.1 (am_mx 133) (am_Mt 133).2.2 ∈ lw_tbl := am_wd_in (p := (5, 160)) rfl
set_option maxRecDepth 20000 in
theorem am_cd134 : Jvm.Cond.code (am_Mt 134).1 (am_Mt 134).2.1 (am_mx 134) (am_Mt 134).2.2 ∈ lw_tbl := am_wd_in (p := (4, 155)) rfl
set_option maxRecDepth 20000 in
theorem am_cd135 : Jvm.Cond.code (am_Mt 135).1 (am_Mt 135).2.1 (am_mx 135) (am_Mt 135).2.2 ∈ lw_tbl := am_wd_in (p := (5, 69)) rfl
set_option maxRecDepth 20000 in
theorem am_cd136 : Jvm.Cond.code (am_Mt 136).1 (am_Mt 136).2.1 (am_mx 136) (am_Mt 136).2.2 ∈ lw_tbl := am_wd_in (p := (6, 82)) rfl
set_option maxRecDepth 20000 in
theorem am_cd137 : Jvm.Cond.code (am_Mt 137).1 (am_Mt 137).2.1 (am_mx 137) (am_Mt 137).2.2 ∈ lw_tbl := am_wd_in (p := (4, 148)) rfl
set_option maxRecDepth 20000 in
theorem am_cd138 : Jvm.Cond.code (am_Mt 138).1 (am_Mt 138).2.1 (am_mx 138) (am_Mt 138).2.2 ∈ lw_tbl := am_wd_in (p := (4, 165)) rfl
set_option maxRecDepth 20000 in
theorem am_cd139 : Jvm.Cond.code (am_Mt 139).1 (am_Mt 139).2.1 (am_mx 139) (am_Mt 139).2.2 ∈ lw_tbl := am_wd_in (p := (4, 173)) rfl
set_option maxRecDepth 20000 in
theorem am_cd140 : Jvm.Cond.code (am_Mt 140).1 (am_Mt 140).2.1 (am_mx 140) (am_Mt 140).2.2 ∈ lw_tbl := am_wd_in (p := (4, 217)) rfl
set_option maxRecDepth 20000 in
theorem am_cd141 : Jvm.Cond.code (am_Mt 141).1 (am_Mt 141).2.1 (am_mx 141) (am_Mt 141).2.2 ∈ lw_tbl := am_wd_in (p := (4, 221)) rfl
set_option maxRecDepth 20000 in
theorem am_cd142 : Jvm.Cond.code (am_Mt 142).1 (am_Mt 142).2.1 (am_mx 142) (am_Mt 142).2.2 ∈ lw_tbl := am_wd_in (p := (4, 225)) rfl
set_option maxRecDepth 20000 in
theorem am_cd143 : Jvm.Cond.code (am_Mt 143).1 (am_Mt 143).2.1 (am_mx 143) (am_Mt 143).2.2 ∈ lw_tbl := am_wd_in (p := (5, 6)) rfl
set_option maxRecDepth 20000 in
theorem am_cd144 : Jvm.Cond.code (am_Mt 144).1 (am_Mt 144).2.1 (am_mx 144) (am_Mt 144).2.2 ∈ lw_tbl := am_wd_in (p := (5, 15)) rfl
set_option maxRecDepth 20000 in
theorem am_cd145 : Jvm.Cond.code (am_Mt 145).1 (am_Mt 145).2.1 (am_mx 145) (am_Mt 145).2.2 ∈ lw_tbl := am_wd_in (p := (5, 23)) rfl
set_option maxRecDepth 20000 in
theorem am_cd146 : Jvm.Cond.code (am_Mt 146).1 (am_Mt 146).2.1 (am_mx 146) (am_Mt 146).2.2 ∈ lw_tbl := am_wd_in (p := (5, 65)) rfl
set_option maxRecDepth 20000 in
theorem am_cd147 : Jvm.Cond.code (am_Mt 147).1 (am_Mt 147).2.1 (am_mx 147) (am_Mt 147).2.2 ∈ lw_tbl := am_wd_in (p := (5, 73)) rfl
set_option maxRecDepth 20000 in
theorem am_cd148 : Jvm.Cond.code (am_Mt 148).1 (am_Mt 148).2.1 (am_mx 148) (am_Mt 148).2.2 ∈ lw_tbl := am_wd_in (p := (5, 82)) rfl
set_option maxRecDepth 20000 in
theorem am_cd149 : Jvm.Cond.code (am_Mt 149).1 (am_Mt 149).2.1 (am_mx 149) (am_Mt 149).2.2 ∈ lw_tbl := am_wd_in (p := (5, 95)) rfl
set_option maxRecDepth 20000 in
theorem am_cd150 : Jvm.Cond.code (am_Mt 150).1 (am_Mt 150).2.1 (am_mx 150) (am_Mt 150).2.2 ∈ lw_tbl := am_wd_in (p := (5, 99)) rfl
set_option maxRecDepth 20000 in
theorem am_cd151 : Jvm.Cond.code (am_Mt 151).1 (am_Mt 151).2.1 (am_mx 151) (am_Mt 151).2.2 ∈ lw_tbl := am_wd_in (p := (5, 103)) rfl
set_option maxRecDepth 20000 in
theorem am_cd152 : Jvm.Cond.code (am_Mt 152).1 (am_Mt 152).2.1 (am_mx 152) (am_Mt 152).2.2 ∈ lw_tbl := am_wd_in (p := (5, 140)) rfl
set_option maxRecDepth 20000 in
theorem am_cd153 : Jvm.Cond.code (am_Mt 153).1 (am_Mt 153).2.1 (am_mx 153) (am_Mt 153).2.2 ∈ lw_tbl := am_wd_in (p := (5, 157)) rfl
set_option maxRecDepth 20000 in
theorem am_cd154 : Jvm.Cond.code (am_Mt 154).1 (am_Mt 154).2.1 (am_mx 154) (am_Mt 154).2.2 ∈ lw_tbl := am_wd_in (p := (5, 166)) rfl
set_option maxRecDepth 20000 in
theorem am_cd155 : Jvm.Cond.code (am_Mt 155).1 (am_Mt 155).2.1 (am_mx 155) (am_Mt 155).2.2 ∈ lw_tbl := am_wd_in (p := (5, 170)) rfl
set_option maxRecDepth 20000 in
theorem am_cd156 : Jvm.Cond.code (am_Mt 156).1 (am_Mt 156).2.1 (am_mx 156) (am_Mt 156).2.2 ∈ lw_tbl := am_wd_in (p := (5, 174)) rfl
set_option maxRecDepth 20000 in
theorem am_cd157 : Jvm.Cond.code (am_Mt 157).1 (am_Mt 157).2.1 (am_mx 157) (am_Mt 157).2.2 ∈ lw_tbl := am_wd_in (p := (5, 178)) rfl
set_option maxRecDepth 20000 in
theorem am_cd158 : Jvm.Cond.code (am_Mt 158).1 (am_Mt 158).2.1 (am_mx 158) (am_Mt 158).2.2 ∈ lw_tbl := am_wd_in (p := (5, 183)) rfl
set_option maxRecDepth 20000 in
theorem am_cd159 : Jvm.Cond.code (am_Mt 159).1 (am_Mt 159).2.1 (am_mx 159) (am_Mt 159).2.2 ∈ lw_tbl := am_wd_in (p := (5, 187)) rfl
set_option maxRecDepth 20000 in
theorem am_cd160 : Jvm.Cond.code (am_Mt 160).1 (am_Mt 160).2.1 (am_mx 160) (am_Mt 160).2.2 ∈ lw_tbl := am_wd_in (p := (5, 191)) rfl
set_option maxRecDepth 20000 in
theorem am_cd161 : Jvm.Cond.code (am_Mt 161).1 (am_Mt 161).2.1 (am_mx 161) (am_Mt 161).2.2 ∈ lw_tbl := am_wd_in (p := (5, 200)) rfl
set_option maxRecDepth 20000 in
theorem am_cd162 : Jvm.Cond.code (am_Mt 162).1 (am_Mt 162).2.1 (am_mx 162) (am_Mt 162).2.2 ∈ lw_tbl := am_wd_in (p := (5, 219)) rfl
set_option maxRecDepth 20000 in
theorem am_cd163 : Jvm.Cond.code (am_Mt 163).1 (am_Mt 163).2.1 (am_mx 163) (am_Mt 163).2.2 ∈ lw_tbl := am_wd_in (p := (5, 223)) rfl
set_option maxRecDepth 20000 in
theorem am_cd164 : Jvm.Cond.code (am_Mt 164).1 (am_Mt 164).2.1 (am_mx 164) (am_Mt 164).2.2 ∈ lw_tbl := am_wd_in (p := (5, 227)) rfl
set_option maxRecDepth 20000 in
theorem am_cd165 : Jvm.Cond.code (am_Mt 165).1 (am_Mt 165).2.1 (am_mx 165) (am_Mt 165).2.2 ∈ lw_tbl := am_wd_in (p := (5, 231)) rfl
set_option maxRecDepth 20000 in
theorem am_cd166 : Jvm.Cond.code (am_Mt 166).1 (am_Mt 166).2.1 (am_mx 166) (am_Mt 166).2.2 ∈ lw_tbl := am_wd_in (p := (5, 236)) rfl
set_option maxRecDepth 20000 in
theorem am_cd167 : Jvm.Cond.code (am_Mt 167).1 (am_Mt 167).2.1 (am_mx 167) (am_Mt 167).2.2 ∈ lw_tbl := am_wd_in (p := (6, 6)) rfl
set_option maxRecDepth 20000 in
theorem am_cd168 : Jvm.Cond.code (am_Mt 168).1 (am_Mt 168).2.1 (am_mx 168) (am_Mt 168).2.2 ∈ lw_tbl := am_wd_in (p := (6, 14)) rfl
set_option maxRecDepth 20000 in
theorem am_cd169 : Jvm.Cond.code (am_Mt 169).1 (am_Mt 169).2.1 (am_mx 169) (am_Mt 169).2.2 ∈ lw_tbl := am_wd_in (p := (6, 26)) rfl
set_option maxRecDepth 20000 in
theorem am_cd170 : Jvm.Cond.code (am_Mt 170).1 (am_Mt 170).2.1 (am_mx 170) (am_Mt 170).2.2 ∈ lw_tbl := am_wd_in (p := (6, 40)) rfl
set_option maxRecDepth 20000 in
theorem am_cd171 : Jvm.Cond.code (am_Mt 171).1 (am_Mt 171).2.1 (am_mx 171) (am_Mt 171).2.2 ∈ lw_tbl := am_wd_in (p := (6, 52)) rfl
set_option maxRecDepth 20000 in
theorem am_cd172 : Jvm.Cond.code (am_Mt 172).1 (am_Mt 172).2.1 (am_mx 172) (am_Mt 172).2.2 ∈ lw_tbl := am_wd_in (p := (6, 61)) rfl
set_option maxRecDepth 20000 in
theorem am_cd173 : Jvm.Cond.code (am_Mt 173).1 (am_Mt 173).2.1 (am_mx 173) (am_Mt 173).2.2 ∈ lw_tbl := am_wd_in (p := (6, 65)) rfl
set_option maxRecDepth 20000 in
theorem am_cd174 : Jvm.Cond.code (am_Mt 174).1 (am_Mt 174).2.1 (am_mx 174) (am_Mt 174).2.2 ∈ lw_tbl := am_wd_in (p := (6, 153)) rfl
set_option maxRecDepth 20000 in
theorem am_cd175 : Jvm.Cond.code (am_Mt 175).1 (am_Mt 175).2.1 (am_mx 175) (am_Mt 175).2.2 ∈ lw_tbl := am_wd_in (p := (7, 118)) rfl
set_option maxRecDepth 20000 in
theorem am_cd176 : Jvm.Cond.code (am_Mt 176).1 (am_Mt 176).2.1 (am_mx 176) (am_Mt 176).2.2 ∈ lw_tbl := am_wd_in (p := (7, 141)) rfl
set_option maxRecDepth 20000 in
theorem am_cd177 : Jvm.Cond.code (am_Mt 177).1 (am_Mt 177).2.1 (am_mx 177) (am_Mt 177).2.2 ∈ lw_tbl := am_wd_in (p := (7, 172)) rfl
set_option maxRecDepth 20000 in
theorem am_cd178 : Jvm.Cond.code (am_Mt 178).1 (am_Mt 178).2.1 (am_mx 178) (am_Mt 178).2.2 ∈ lw_tbl := am_wd_in (p := (7, 198)) rfl
set_option maxRecDepth 20000 in
theorem am_cd179 : Jvm.Cond.code (am_Mt 179).1 (am_Mt 179).2.1 (am_mx 179) (am_Mt 179).2.2 ∈ lw_tbl := am_wd_in (p := (7, 125)) rfl
set_option maxRecDepth 20000 in
theorem am_cd180 : Jvm.Cond.code (am_Mt 180).1 (am_Mt 180).2.1 (am_mx 180) (am_Mt 180).2.2 ∈ lw_tbl := am_wd_in (p := (7, 129)) rfl
set_option maxRecDepth 20000 in
theorem am_cd181 : Jvm.Cond.code (am_Mt 181).1 (am_Mt 181).2.1 (am_mx 181) (am_Mt 181).2.2 ∈ lw_tbl := am_wd_in (p := (7, 122)) rfl
set_option maxRecDepth 20000 in
theorem am_cd182 : Jvm.Cond.code (am_Mt 182).1 (am_Mt 182).2.1 (am_mx 182) (am_Mt 182).2.2 ∈ lw_tbl := am_wd_in (p := (7, 133)) rfl
set_option maxRecDepth 20000 in
theorem am_cd183 : Jvm.Cond.code (am_Mt 183).1 (am_Mt 183).2.1 (am_mx 183) (am_Mt 183).2.2 ∈ lw_tbl := am_wd_in (p := (7, 157)) rfl
set_option maxRecDepth 20000 in
theorem am_cd184 : Jvm.Cond.code (am_Mt 184).1 (am_Mt 184).2.1 (am_mx 184) (am_Mt 184).2.2 ∈ lw_tbl := am_wd_in (p := (7, 161)) rfl
set_option maxRecDepth 20000 in
theorem am_cd185 : Jvm.Cond.code (am_Mt 185).1 (am_Mt 185).2.1 (am_mx 185) (am_Mt 185).2.2 ∈ lw_tbl := am_wd_in (p := (8, 32)) rfl
set_option maxRecDepth 20000 in
theorem am_cd186 : Jvm.Cond.code (am_Mt 186).1 (am_Mt 186).2.1 (am_mx 186) (am_Mt 186).2.2 ∈ lw_tbl := am_wd_in (p := (7, 153)) rfl
set_option maxRecDepth 20000 in
theorem am_cd187 : Jvm.Cond.code (am_Mt 187).1 (am_Mt 187).2.1 (am_mx 187) (am_Mt 187).2.2 ∈ lw_tbl := am_wd_in (p := (7, 169)) rfl
set_option maxRecDepth 20000 in
theorem am_cd188 : Jvm.Cond.code (am_Mt 188).1 (am_Mt 188).2.1 (am_mx 188) (am_Mt 188).2.2 ∈ lw_tbl := am_wd_in (p := (8, 35)) rfl
set_option maxRecDepth 20000 in
theorem am_cd189 : Jvm.Cond.code (am_Mt 189).1 (am_Mt 189).2.1 (am_mx 189) (am_Mt 189).2.2 ∈ lw_tbl := am_wd_in (p := (8, 28)) rfl
set_option maxRecDepth 20000 in
theorem am_cd190 : Jvm.Cond.code (am_Mt 190).1 (am_Mt 190).2.1 (am_mx 190) (am_Mt 190).2.2 ∈ lw_tbl := am_wd_in (p := (8, 24)) rfl
set_option maxRecDepth 20000 in
theorem am_cd191 : Jvm.Cond.code (am_Mt 191).1 (am_Mt 191).2.1 (am_mx 191) (am_Mt 191).2.2 ∈ lw_tbl := am_wd_in (p := (8, 20)) rfl
set_option maxRecDepth 20000 in
theorem am_cd192 : Jvm.Cond.code (am_Mt 192).1 (am_Mt 192).2.1 (am_mx 192) (am_Mt 192).2.2 ∈ lw_tbl := am_wd_in (p := (8, 42)) rfl
set_option maxRecDepth 20000 in
theorem am_cd193 : Jvm.Cond.code (am_Mt 193).1 (am_Mt 193).2.1 (am_mx 193) (am_Mt 193).2.2 ∈ lw_tbl := am_wd_in (p := (8, 16)) rfl
set_option maxRecDepth 20000 in
theorem am_cd194 : Jvm.Cond.code (am_Mt 194).1 (am_Mt 194).2.1 (am_mx 194) (am_Mt 194).2.2 ∈ lw_tbl := am_wd_in (p := (8, 46)) rfl
set_option maxRecDepth 20000 in
theorem am_cd195 : Jvm.Cond.code (am_Mt 195).1 (am_Mt 195).2.1 (am_mx 195) (am_Mt 195).2.2 ∈ lw_tbl := am_wd_in (p := (8, 12)) rfl
set_option maxRecDepth 20000 in
theorem am_cd196 : Jvm.Cond.code (am_Mt 196).1 (am_Mt 196).2.1 (am_mx 196) (am_Mt 196).2.2 ∈ lw_tbl := am_wd_in (p := (8, 8)) rfl
set_option maxRecDepth 20000 in
theorem am_cd197 : Jvm.Cond.code (am_Mt 197).1 (am_Mt 197).2.1 (am_mx 197) (am_Mt 197).2.2 ∈ lw_tbl := am_wd_in (p := (7, 195)) rfl
set_option maxRecDepth 20000 in
theorem am_cd198 : Jvm.Cond.code (am_Mt 198).1 (am_Mt 198).2.1 (am_mx 198) (am_Mt 198).2.2 ∈ lw_tbl := am_wd_in (p := (7, 149)) rfl
set_option maxRecDepth 20000 in
theorem am_cd199 : Jvm.Cond.code (am_Mt 199).1 (am_Mt 199).2.1 (am_mx 199) (am_Mt 199).2.2 ∈ lw_tbl := am_wd_in (p := (7, 191)) rfl
set_option maxRecDepth 20000 in
theorem am_cd200 : Jvm.Cond.code (am_Mt 200).1 (am_Mt 200).2.1 (am_mx 200) (am_Mt 200).2.2 ∈ lw_tbl := am_wd_in (p := (7, 165)) rfl
set_option maxRecDepth 20000 in
theorem am_cd201 : Jvm.Cond.code (am_Mt 201).1 (am_Mt 201).2.1 (am_mx 201) (am_Mt 201).2.2 ∈ lw_tbl := am_wd_in (p := (7, 145)) rfl
set_option maxRecDepth 20000 in
theorem am_cd202 : Jvm.Cond.code (am_Mt 202).1 (am_Mt 202).2.1 (am_mx 202) (am_Mt 202).2.2 ∈ lw_tbl := am_wd_in (p := (7, 183)) rfl
set_option maxRecDepth 20000 in
theorem am_cd203 : Jvm.Cond.code (am_Mt 203).1 (am_Mt 203).2.1 (am_mx 203) (am_Mt 203).2.2 ∈ lw_tbl := am_wd_in (p := (7, 180)) rfl
set_option maxRecDepth 20000 in
theorem am_cd204 : Jvm.Cond.code (am_Mt 204).1 (am_Mt 204).2.1 (am_mx 204) (am_Mt 204).2.2 ∈ lw_tbl := am_wd_in (p := (7, 176)) rfl
set_option maxRecDepth 20000 in
theorem am_cd205 : Jvm.Cond.code (am_Mt 205).1 (am_Mt 205).2.1 (am_mx 205) (am_Mt 205).2.2 ∈ lw_tbl := am_wd_in (p := (7, 187)) rfl
set_option maxRecDepth 20000 in
theorem am_cd206 : Jvm.Cond.code (am_Mt 206).1 (am_Mt 206).2.1 (am_mx 206) (am_Mt 206).2.2 ∈ lw_tbl := am_wd_in (p := (7, 137)) rfl
set_option maxRecDepth 20000 in
theorem am_cd207 : Jvm.Cond.code (am_Mt 207).1 (am_Mt 207).2.1 (am_mx 207) (am_Mt 207).2.2 ∈ lw_tbl := am_wd_in (p := (8, 54)) rfl
set_option maxRecDepth 20000 in
theorem am_cd208 : Jvm.Cond.code (am_Mt 208).1 (am_Mt 208).2.1 (am_mx 208) (am_Mt 208).2.2 ∈ lw_tbl := am_wd_in (p := (8, 50)) rfl
set_option maxRecDepth 20000 in
theorem am_cd209 : Jvm.Cond.code (am_Mt 209).1 (am_Mt 209).2.1 (am_mx 209) (am_Mt 209).2.2 ∈ lw_tbl := am_wd_in (p := (8, 169)) rfl
set_option maxRecDepth 20000 in
theorem am_cd210 : Jvm.Cond.code (am_Mt 210).1 (am_Mt 210).2.1 (am_mx 210) (am_Mt 210).2.2 ∈ lw_tbl := am_wd_in (p := (8, 71)) rfl
set_option maxRecDepth 20000 in
theorem am_cd211 : Jvm.Cond.code (am_Mt 211).1 (am_Mt 211).2.1 (am_mx 211) (am_Mt 211).2.2 ∈ lw_tbl := am_wd_in (p := (8, 67)) rfl
set_option maxRecDepth 20000 in
theorem am_cd212 : Jvm.Cond.code (am_Mt 212).1 (am_Mt 212).2.1 (am_mx 212) (am_Mt 212).2.2 ∈ lw_tbl := am_wd_in (p := (8, 97)) rfl
set_option maxRecDepth 20000 in
theorem am_cd213 : Jvm.Cond.code (am_Mt 213).1 (am_Mt 213).2.1 (am_mx 213) (am_Mt 213).2.2 ∈ lw_tbl := am_wd_in (p := (8, 93)) rfl
set_option maxRecDepth 20000 in
theorem am_cd214 : Jvm.Cond.code (am_Mt 214).1 (am_Mt 214).2.1 (am_mx 214) (am_Mt 214).2.2 ∈ lw_tbl := am_wd_in (p := (8, 149)) rfl
set_option maxRecDepth 20000 in
theorem am_cd215 : Jvm.Cond.code (am_Mt 215).1 (am_Mt 215).2.1 (am_mx 215) (am_Mt 215).2.2 ∈ lw_tbl := am_wd_in (p := (8, 173)) rfl
set_option maxRecDepth 20000 in
theorem am_cd216 : Jvm.Cond.code (am_Mt 216).1 (am_Mt 216).2.1 (am_mx 216) (am_Mt 216).2.2 ∈ lw_tbl := am_wd_in (p := (8, 141)) rfl
set_option maxRecDepth 20000 in
theorem am_cd217 : Jvm.Cond.code (am_Mt 217).1 (am_Mt 217).2.1 (am_mx 217) (am_Mt 217).2.2 ∈ lw_tbl := am_wd_in (p := (8, 63)) rfl
set_option maxRecDepth 20000 in
theorem am_cd218 : Jvm.Cond.code (am_Mt 218).1 (am_Mt 218).2.1 (am_mx 218) (am_Mt 218).2.2 ∈ lw_tbl := am_wd_in (p := (8, 121)) rfl
set_option maxRecDepth 20000 in
theorem am_cd219 : Jvm.Cond.code (am_Mt 219).1 (am_Mt 219).2.1 (am_mx 219) (am_Mt 219).2.2 ∈ lw_tbl := am_wd_in (p := (8, 59)) rfl
set_option maxRecDepth 20000 in
theorem am_cd220 : Jvm.Cond.code (am_Mt 220).1 (am_Mt 220).2.1 (am_mx 220) (am_Mt 220).2.2 ∈ lw_tbl := am_wd_in (p := (8, 80)) rfl
set_option maxRecDepth 20000 in
theorem am_cd221 : Jvm.Cond.code (am_Mt 221).1 (am_Mt 221).2.1 (am_mx 221) (am_Mt 221).2.2 ∈ lw_tbl := am_wd_in (p := (8, 75)) rfl
set_option maxRecDepth 20000 in
theorem am_cd222 : Jvm.Cond.code (am_Mt 222).1 (am_Mt 222).2.1 (am_mx 222) (am_Mt 222).2.2 ∈ lw_tbl := am_wd_in (p := (8, 85)) rfl
set_option maxRecDepth 20000 in
theorem am_cd223 : Jvm.Cond.code (am_Mt 223).1 (am_Mt 223).2.1 (am_mx 223) (am_Mt 223).2.2 ∈ lw_tbl := am_wd_in (p := (8, 105)) rfl
set_option maxRecDepth 20000 in
theorem am_cd224 : Jvm.Cond.code (am_Mt 224).1 (am_Mt 224).2.1 (am_mx 224) (am_Mt 224).2.2 ∈ lw_tbl := am_wd_in (p := (8, 101)) rfl
set_option maxRecDepth 20000 in
theorem am_cd225 : Jvm.Cond.code (am_Mt 225).1 (am_Mt 225).2.1 (am_mx 225) (am_Mt 225).2.2 ∈ lw_tbl := am_wd_in (p := (8, 89)) rfl
set_option maxRecDepth 20000 in
theorem am_cd226 : Jvm.Cond.code (am_Mt 226).1 (am_Mt 226).2.1 (am_mx 226) (am_Mt 226).2.2 ∈ lw_tbl := am_wd_in (p := (8, 109)) rfl
set_option maxRecDepth 20000 in
theorem am_cd227 : Jvm.Cond.code (am_Mt 227).1 (am_Mt 227).2.1 (am_mx 227) (am_Mt 227).2.2 ∈ lw_tbl := am_wd_in (p := (8, 113)) rfl
set_option maxRecDepth 20000 in
theorem am_cd228 : Jvm.Cond.code (am_Mt 228).1 (am_Mt 228).2.1 (am_mx 228) (am_Mt 228).2.2 ∈ lw_tbl := am_wd_in (p := (8, 129)) rfl
set_option maxRecDepth 20000 in
theorem am_cd229 : Jvm.Cond.code (am_Mt 229).1 (am_Mt 229).2.1 (am_mx 229) (am_Mt 229).2.2 ∈ lw_tbl := am_wd_in (p := (8, 117)) rfl
set_option maxRecDepth 20000 in
theorem am_cd230 : Jvm.Cond.code (am_Mt 230).1 (am_Mt 230).2.1 (am_mx 230) (am_Mt 230).2.2 ∈ lw_tbl := am_wd_in (p := (8, 133)) rfl
set_option maxRecDepth 20000 in
theorem am_cd231 : Jvm.Cond.code (am_Mt 231).1 (am_Mt 231).2.1 (am_mx 231) (am_Mt 231).2.2 ∈ lw_tbl := am_wd_in (p := (8, 125)) rfl
set_option maxRecDepth 20000 in
theorem am_cd232 : Jvm.Cond.code (am_Mt 232).1 (am_Mt 232).2.1 (am_mx 232) (am_Mt 232).2.2 ∈ lw_tbl := am_wd_in (p := (8, 137)) rfl
set_option maxRecDepth 20000 in
theorem am_cd233 : Jvm.Cond.code (am_Mt 233).1 (am_Mt 233).2.1 (am_mx 233) (am_Mt 233).2.2 ∈ lw_tbl := am_wd_in (p := (8, 157)) rfl
set_option maxRecDepth 20000 in
theorem am_cd234 : Jvm.Cond.code (am_Mt 234).1 (am_Mt 234).2.1 (am_mx 234) (am_Mt 234).2.2 ∈ lw_tbl := am_wd_in (p := (8, 153)) rfl
set_option maxRecDepth 20000 in
theorem am_cd235 : Jvm.Cond.code (am_Mt 235).1 (am_Mt 235).2.1 (am_mx 235) (am_Mt 235).2.2 ∈ lw_tbl := am_wd_in (p := (8, 189)) rfl
set_option maxRecDepth 20000 in
theorem am_cd236 : Jvm.Cond.code (am_Mt 236).1 (am_Mt 236).2.1 (am_mx 236) (am_Mt 236).2.2 ∈ lw_tbl := am_wd_in (p := (8, 145)) rfl
set_option maxRecDepth 20000 in
theorem am_cd237 : Jvm.Cond.code (am_Mt 237).1 (am_Mt 237).2.1 (am_mx 237) (am_Mt 237).2.2 ∈ lw_tbl := am_wd_in (p := (8, 164)) rfl
set_option maxRecDepth 20000 in
theorem am_cd238 : Jvm.Cond.code (am_Mt 238).1 (am_Mt 238).2.1 (am_mx 238) (am_Mt 238).2.2 ∈ lw_tbl := am_wd_in (p := (8, 161)) rfl
set_option maxRecDepth 20000 in
theorem am_cd239 : Jvm.Cond.code (am_Mt 239).1 (am_Mt 239).2.1 (am_mx 239) (am_Mt 239).2.2 ∈ lw_tbl := am_wd_in (p := (8, 177)) rfl
set_option maxRecDepth 20000 in
theorem am_cd240 : Jvm.Cond.code (am_Mt 240).1 (am_Mt 240).2.1 (am_mx 240) (am_Mt 240).2.2 ∈ lw_tbl := am_wd_in (p := (8, 185)) rfl
set_option maxRecDepth 20000 in
theorem am_cd241 : Jvm.Cond.code (am_Mt 241).1 (am_Mt 241).2.1 (am_mx 241) (am_Mt 241).2.2 ∈ lw_tbl := am_wd_in (p := (8, 181)) rfl
set_option maxRecDepth 20000 in
theorem am_cd242 : Jvm.Cond.code (am_Mt 242).1 (am_Mt 242).2.1 (am_mx 242) (am_Mt 242).2.2 ∈ lw_tbl := am_wd_in (p := (8, 193)) rfl
set_option maxRecDepth 20000 in
theorem am_cd243 : Jvm.Cond.code (am_Mt 243).1 (am_Mt 243).2.1 (am_mx 243) (am_Mt 243).2.2 ∈ lw_tbl := am_wd_in (p := (8, 198)) rfl
set_option maxRecDepth 20000 in
theorem am_cd244 : Jvm.Cond.code (am_Mt 244).1 (am_Mt 244).2.1 (am_mx 244) (am_Mt 244).2.2 ∈ lw_tbl := am_wd_in (p := (8, 202)) rfl
set_option maxRecDepth 20000 in
theorem am_cd245 : Jvm.Cond.code (am_Mt 245).1 (am_Mt 245).2.1 (am_mx 245) (am_Mt 245).2.2 ∈ lw_tbl := am_wd_in (p := (8, 206)) rfl
set_option maxRecDepth 20000 in
theorem am_cd246 : Jvm.Cond.code (am_Mt 246).1 (am_Mt 246).2.1 (am_mx 246) (am_Mt 246).2.2 ∈ lw_tbl := am_wd_in (p := (8, 215)) rfl
set_option maxRecDepth 20000 in
theorem am_cd247 : Jvm.Cond.code (am_Mt 247).1 (am_Mt 247).2.1 (am_mx 247) (am_Mt 247).2.2 ∈ lw_tbl := am_wd_in (p := (8, 211)) rfl
set_option maxRecDepth 20000 in
theorem am_cd248 : Jvm.Cond.code (am_Mt 248).1 (am_Mt 248).2.1 (am_mx 248) (am_Mt 248).2.2 ∈ lw_tbl := am_wd_in (p := (8, 219)) rfl
set_option maxRecDepth 20000 in
theorem am_cd249 : Jvm.Cond.code (am_Mt 249).1 (am_Mt 249).2.1 (am_mx 249) (am_Mt 249).2.2 ∈ lw_tbl := am_wd_in (p := (8, 223)) rfl
set_option maxRecDepth 20000 in
theorem am_cd250 : Jvm.Cond.code (am_Mt 250).1 (am_Mt 250).2.1 (am_mx 250) (am_Mt 250).2.2 ∈ lw_tbl := am_wd_in (p := (8, 227)) rfl
set_option maxRecDepth 20000 in
theorem am_cd251 : Jvm.Cond.code (am_Mt 251).1 (am_Mt 251).2.1 (am_mx 251) (am_Mt 251).2.2 ∈ lw_tbl := am_wd_in (p := (8, 231)) rfl
set_option maxRecDepth 20000 in
theorem am_cd252 : Jvm.Cond.code (am_Mt 252).1 (am_Mt 252).2.1 (am_mx 252) (am_Mt 252).2.2 ∈ lw_tbl := am_wd_in (p := (9, 4)) rfl
set_option maxRecDepth 20000 in
theorem am_cd253 : Jvm.Cond.code (am_Mt 253).1 (am_Mt 253).2.1 (am_mx 253) (am_Mt 253).2.2 ∈ lw_tbl := am_wd_in (p := (9, 0)) rfl
set_option maxRecDepth 20000 in
theorem am_cd254 : Jvm.Cond.code (am_Mt 254).1 (am_Mt 254).2.1 (am_mx 254) (am_Mt 254).2.2 ∈ lw_tbl := am_wd_in (p := (8, 236)) rfl
set_option maxRecDepth 20000 in
theorem am_cd255 : Jvm.Cond.code (am_Mt 255).1 (am_Mt 255).2.1 (am_mx 255) (am_Mt 255).2.2 ∈ lw_tbl := am_wd_in (p := (9, 8)) rfl
set_option maxRecDepth 20000 in
theorem am_cd256 : Jvm.Cond.code (am_Mt 256).1 (am_Mt 256).2.1 (am_mx 256) (am_Mt 256).2.2 ∈ lw_tbl := am_wd_in (p := (9, 12)) rfl
set_option maxRecDepth 20000 in
theorem am_cd257 : Jvm.Cond.code (am_Mt 257).1 (am_Mt 257).2.1 (am_mx 257) (am_Mt 257).2.2 ∈ lw_tbl := am_wd_in (p := (9, 16)) rfl
set_option maxRecDepth 20000 in
theorem am_cd258 : Jvm.Cond.code (am_Mt 258).1 (am_Mt 258).2.1 (am_mx 258) (am_Mt 258).2.2 ∈ lw_tbl := am_wd_in (p := (9, 25)) rfl
set_option maxRecDepth 20000 in
theorem am_cd259 : Jvm.Cond.code (am_Mt 259).1 (am_Mt 259).2.1 (am_mx 259) (am_Mt 259).2.2 ∈ lw_tbl := am_wd_in (p := (9, 20)) rfl
set_option maxRecDepth 20000 in
theorem am_cd260 : Jvm.Cond.code (am_Mt 260).1 (am_Mt 260).2.1 (am_mx 260) (am_Mt 260).2.2 ∈ lw_tbl := am_wd_in (p := (9, 29)) rfl
set_option maxRecDepth 20000 in
theorem am_cd261 : Jvm.Cond.code (am_Mt 261).1 (am_Mt 261).2.1 (am_mx 261) (am_Mt 261).2.2 ∈ lw_tbl := am_wd_in (p := (9, 33)) rfl
set_option maxRecDepth 20000 in
theorem am_cd262 : Jvm.Cond.code (am_Mt 262).1 (am_Mt 262).2.1 (am_mx 262) (am_Mt 262).2.2 ∈ lw_tbl := am_wd_in (p := (9, 40)) rfl
set_option maxRecDepth 20000 in
theorem am_cd263 : Jvm.Cond.code (am_Mt 263).1 (am_Mt 263).2.1 (am_mx 263) (am_Mt 263).2.2 ∈ lw_tbl := am_wd_in (p := (9, 44)) rfl
set_option maxRecDepth 20000 in
theorem am_cd264 : Jvm.Cond.code (am_Mt 264).1 (am_Mt 264).2.1 (am_mx 264) (am_Mt 264).2.2 ∈ lw_tbl := am_wd_in (p := (9, 48)) rfl
set_option maxRecDepth 20000 in
theorem am_cd265 : Jvm.Cond.code (am_Mt 265).1 (am_Mt 265).2.1 (am_mx 265) (am_Mt 265).2.2 ∈ lw_tbl := am_wd_in (p := (9, 52)) rfl
set_option maxRecDepth 20000 in
theorem am_cd266 : Jvm.Cond.code (am_Mt 266).1 (am_Mt 266).2.1 (am_mx 266) (am_Mt 266).2.2 ∈ lw_tbl := am_wd_in (p := (5, 239)) rfl
set_option maxRecDepth 20000 in
theorem am_cd267 : Jvm.Cond.code (am_Mt 267).1 (am_Mt 267).2.1 (am_mx 267) (am_Mt 267).2.2 ∈ lw_tbl := am_wd_in (p := (7, 202)) rfl
set_option maxRecDepth 20000 in
theorem am_cd268 : Jvm.Cond.code (am_Mt 268).1 (am_Mt 268).2.1 (am_mx 268) (am_Mt 268).2.2 ∈ lw_tbl := am_wd_in (p := (7, 212)) rfl
set_option maxRecDepth 20000 in
theorem am_cd269 : Jvm.Cond.code (am_Mt 269).1 (am_Mt 269).2.1 (am_mx 269) (am_Mt 269).2.2 ∈ lw_tbl := am_wd_in (p := (7, 206)) rfl
set_option maxRecDepth 20000 in
theorem am_cd270 : Jvm.Cond.code (am_Mt 270).1 (am_Mt 270).2.1 (am_mx 270) (am_Mt 270).2.2 ∈ lw_tbl := am_wd_in (p := (7, 216)) rfl
set_option maxRecDepth 20000 in
theorem am_cd271 : Jvm.Cond.code (am_Mt 271).1 (am_Mt 271).2.1 (am_mx 271) (am_Mt 271).2.2 ∈ lw_tbl := am_wd_in (p := (7, 222)) rfl
set_option maxRecDepth 20000 in
theorem am_cd272 : Jvm.Cond.code (am_Mt 272).1 (am_Mt 272).2.1 (am_mx 272) (am_Mt 272).2.2 ∈ lw_tbl := am_wd_in (p := (7, 219)) rfl
set_option maxRecDepth 20000 in
theorem am_cd273 : Jvm.Cond.code (am_Mt 273).1 (am_Mt 273).2.1 (am_mx 273) (am_Mt 273).2.2 ∈ lw_tbl := am_wd_in (p := (1, 179)) rfl
set_option maxRecDepth 20000 in
theorem am_cd274 : Jvm.Cond.code (am_Mt 274).1 (am_Mt 274).2.1 (am_mx 274) (am_Mt 274).2.2 ∈ lw_tbl := am_wd_in (p := (1, 176)) rfl
set_option maxRecDepth 20000 in
theorem am_cd275 : Jvm.Cond.code (am_Mt 275).1 (am_Mt 275).2.1 (am_mx 275) (am_Mt 275).2.2 ∈ lw_tbl := am_wd_in (p := (1, 173)) rfl
set_option maxRecDepth 20000 in
theorem am_cd276 : Jvm.Cond.code (am_Mt 276).1 (am_Mt 276).2.1 (am_mx 276) (am_Mt 276).2.2 ∈ lw_tbl := am_wd_in (p := (4, 95)) rfl
set_option maxRecDepth 20000 in
theorem am_cd277 : Jvm.Cond.code (am_Mt 277).1 (am_Mt 277).2.1 (am_mx 277) (am_Mt 277).2.2 ∈ lw_tbl := am_wd_in (p := (4, 91)) rfl
set_option maxRecDepth 20000 in
theorem am_cd278 : Jvm.Cond.code (am_Mt 278).1 (am_Mt 278).2.1 (am_mx 278) (am_Mt 278).2.2 ∈ lw_tbl := am_wd_in (p := (3, 188)) rfl
set_option maxRecDepth 20000 in
theorem am_cd279 : Jvm.Cond.code (am_Mt 279).1 (am_Mt 279).2.1 (am_mx 279) (am_Mt 279).2.2 ∈ lw_tbl := am_wd_in (p := (4, 37)) rfl
set_option maxRecDepth 20000 in
theorem am_cd280 : Jvm.Cond.code (am_Mt 280).1 (am_Mt 280).2.1 (am_mx 280) (am_Mt 280).2.2 ∈ lw_tbl := am_wd_in (p := (4, 27)) rfl
set_option maxRecDepth 20000 in
theorem am_cd281 : Jvm.Cond.code (am_Mt 281).1 (am_Mt 281).2.1 (am_mx 281) (am_Mt 281).2.2 ∈ lw_tbl := am_wd_in (p := (4, 87)) rfl
set_option maxRecDepth 20000 in
theorem am_cd282 : Jvm.Cond.code (am_Mt 282).1 (am_Mt 282).2.1 (am_mx 282) (am_Mt 282).2.2 ∈ lw_tbl := am_wd_in (p := (4, 83)) rfl
set_option maxRecDepth 20000 in
theorem am_cd283 : Jvm.Cond.code (am_Mt 283).1 (am_Mt 283).2.1 (am_mx 283) (am_Mt 283).2.2 ∈ lw_tbl := am_wd_in (p := (4, 30)) rfl
set_option maxRecDepth 20000 in
theorem am_cd284 : Jvm.Cond.code (am_Mt 284).1 (am_Mt 284).2.1 (am_mx 284) (am_Mt 284).2.2 ∈ lw_tbl := am_wd_in (p := (4, 33)) rfl
