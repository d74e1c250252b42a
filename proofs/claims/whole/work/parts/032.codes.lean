set_option maxRecDepth 100000 in
theorem zq_cw1 : lw_tbl[46]? = some (Jvm.Cond.code (zq_nm 1) (zq_bc 1) (zq_ml 1) (zq_ret 1)) := rfl
set_option maxRecDepth 100000 in
theorem zq_cw2 : lw_tbl[150]? = some (Jvm.Cond.code (zq_nm 2) (zq_bc 2) (zq_ml 2) (zq_ret 2)) := rfl
set_option maxRecDepth 100000 in
theorem zq_cw3 : lw_tbl[219]? = some (Jvm.Cond.code (zq_nm 3) (zq_bc 3) (zq_ml 3) (zq_ret 3)) := rfl
set_option maxRecDepth 100000 in
theorem zq_cw4 : lw_tbl[223]? = some (Jvm.Cond.code (zq_nm 4) (zq_bc 4) (zq_ml 4) (zq_ret 4)) := rfl
set_option maxRecDepth 100000 in
theorem zq_cw5 : lw_tbl[258]? = some (Jvm.Cond.code (zq_nm 5) (zq_bc 5) (zq_ml 5) (zq_ret 5)) := rfl
set_option maxRecDepth 100000 in
theorem zq_cw6 : lw_tbl[264]? = some (Jvm.Cond.code (zq_nm 6) (zq_bc 6) (zq_ml 6) (zq_ret 6)) := rfl
set_option maxRecDepth 100000 in
theorem zq_cw7 : lw_tbl[268]? = some (Jvm.Cond.code (zq_nm 7) (zq_bc 7) (zq_ml 7) (zq_ret 7)) := rfl
set_option maxRecDepth 100000 in
theorem zq_cw8 : lw_tbl[405]? = some (Jvm.Cond.code (zq_nm 8) (zq_bc 8) (zq_ml 8) (zq_ret 8)) := rfl
set_option maxRecDepth 100000 in
theorem zq_cw9 : lw_tbl[413]? = some (Jvm.Cond.code (zq_nm 9) (zq_bc 9) (zq_ml 9) (zq_ret 9)) := rfl
set_option maxRecDepth 100000 in
theorem zq_cw10 : lw_tbl[427]? = some (Jvm.Cond.code (zq_nm 10) (zq_bc 10) (zq_ml 10) (zq_ret 10)) := rfl
set_option maxRecDepth 100000 in
theorem zq_cw11 : lw_tbl[431]? = some (Jvm.Cond.code (zq_nm 11) (zq_bc 11) (zq_ml 11) (zq_ret 11)) := rfl
set_option maxRecDepth 100000 in
theorem zq_cw12 : lw_tbl[435]? = some (Jvm.Cond.code (zq_nm 12) (zq_bc 12) (zq_ml 12) (zq_ret 12)) := rfl
set_option maxRecDepth 100000 in
theorem zq_cw13 : lw_tbl[439]? = some (Jvm.Cond.code (zq_nm 13) (zq_bc 13) (zq_ml 13) (zq_ret 13)) := rfl
set_option maxRecDepth 100000 in
theorem zq_cw14 : lw_tbl[443]? = some (Jvm.Cond.code (zq_nm 14) (zq_bc 14) (zq_ml 14) (zq_ret 14)) := rfl
set_option maxRecDepth 100000 in
theorem zq_cw15 : lw_tbl[448]? = some (Jvm.Cond.code (zq_nm 15) (zq_bc 15) (zq_ml 15) (zq_ret 15)) := rfl
set_option maxRecDepth 100000 in
theorem zq_cw16 : lw_tbl[452]? = some (Jvm.Cond.code (zq_nm 16) (zq_bc 16) (zq_ml 16) (zq_ret 16)) := rfl
set_option maxRecDepth 100000 in
theorem zq_cw17 : lw_tbl[456]? = some (Jvm.Cond.code (zq_nm 17) (zq_bc 17) (zq_ml 17) (zq_ret 17)) := rfl
set_option maxRecDepth 100000 in
theorem zq_cw18 : lw_tbl[460]? = some (Jvm.Cond.code (zq_nm 18) (zq_bc 18) (zq_ml 18) (zq_ret 18)) := rfl
set_option maxRecDepth 100000 in
theorem zq_cw19 : lw_tbl[465]? = some (Jvm.Cond.code (zq_nm 19) (zq_bc 19) (zq_ml 19) (zq_ret 19)) := rfl
set_option maxRecDepth 100000 in
theorem zq_cw20 : lw_tbl[470]? = some (Jvm.Cond.code (zq_nm 20) (zq_bc 20) (zq_ml 20) (zq_ret 20)) := rfl
set_option maxRecDepth 100000 in
theorem zq_cw21 : lw_tbl[211]? = some (Jvm.Cond.code (zq_nm 21) (zq_bc 21) (zq_ml 21) (zq_ret 21)) := rfl
set_option maxRecDepth 100000 in
theorem zq_cw22 : lw_tbl[238]? = some (Jvm.Cond.code (zq_nm 22) (zq_bc 22) (zq_ml 22) (zq_ret 22)) := rfl
set_option maxRecDepth 100000 in
theorem zq_cw23 : lw_tbl[287]? = some (Jvm.Cond.code (zq_nm 23) (zq_bc 23) (zq_ml 23) (zq_ret 23)) := rfl
set_option maxRecDepth 100000 in
theorem zq_cw24 : lw_tbl[334]? = some (Jvm.Cond.code (zq_nm 24) (zq_bc 24) (zq_ml 24) (zq_ret 24)) := rfl
set_option maxRecDepth 100000 in
theorem zq_cw25 : lw_tbl[154]? = some (Jvm.Cond.code (zq_nm 25) (zq_bc 25) (zq_ml 25) (zq_ret 25)) := rfl
set_option maxRecDepth 100000 in
theorem zq_cw26 : lw_tbl[227]? = some (Jvm.Cond.code (zq_nm 26) (zq_bc 26) (zq_ml 26) (zq_ret 26)) := rfl
set_option maxRecDepth 100000 in
theorem zq_cw27 : lw_tbl[204]? = some (Jvm.Cond.code (zq_nm 27) (zq_bc 27) (zq_ml 27) (zq_ret 27)) := rfl
set_option maxRecDepth 100000 in
theorem zq_cw28 : lw_tbl[254]? = some (Jvm.Cond.code (zq_nm 28) (zq_bc 28) (zq_ml 28) (zq_ret 28)) := rfl
set_option maxRecDepth 100000 in
theorem zq_cw29 : lw_tbl[474]? = some (Jvm.Cond.code (zq_nm 29) (zq_bc 29) (zq_ml 29) (zq_ret 29)) := rfl
set_option maxRecDepth 100000 in
theorem zq_cw30 : lw_tbl[478]? = some (Jvm.Cond.code (zq_nm 30) (zq_bc 30) (zq_ml 30) (zq_ret 30)) := rfl
set_option maxRecDepth 100000 in
theorem zq_cw31 : lw_tbl[276]? = some (Jvm.Cond.code (zq_nm 31) (zq_bc 31) (zq_ml 31) (zq_ret 31)) := rfl
set_option maxRecDepth 100000 in
theorem zq_cw32 : lw_tbl[296]? = some (Jvm.Cond.code (zq_nm 32) (zq_bc 32) (zq_ml 32) (zq_ret 32)) := rfl
set_option maxRecDepth 100000 in
theorem zq_cw33 : lw_tbl[305]? = some (Jvm.Cond.code (zq_nm 33) (zq_bc 33) (zq_ml 33) (zq_ret 33)) := rfl
set_option maxRecDepth 100000 in
theorem zq_cw34 : lw_tbl[321]? = some (Jvm.Cond.code (zq_nm 34) (zq_bc 34) (zq_ml 34) (zq_ret 34)) := rfl
set_option maxRecDepth 100000 in
theorem zq_cw35 : lw_tbl[326]? = some (Jvm.Cond.code (zq_nm 35) (zq_bc 35) (zq_ml 35) (zq_ret 35)) := rfl
set_option maxRecDepth 100000 in
theorem zq_cw36 : lw_tbl[359]? = some (Jvm.Cond.code (zq_nm 36) (zq_bc 36) (zq_ml 36) (zq_ret 36)) := rfl
set_option maxRecDepth 100000 in
theorem zq_cw37 : lw_tbl[362]? = some (Jvm.Cond.code (zq_nm 37) (zq_bc 37) (zq_ml 37) (zq_ret 37)) := rfl
set_option maxRecDepth 100000 in
theorem zq_cw38 : lw_tbl[366]? = some (Jvm.Cond.code (zq_nm 38) (zq_bc 38) (zq_ml 38) (zq_ret 38)) := rfl
set_option maxRecDepth 100000 in
theorem zq_cw39 : lw_tbl[417]? = some (Jvm.Cond.code (zq_nm 39) (zq_bc 39) (zq_ml 39) (zq_ret 39)) := rfl
set_option maxRecDepth 100000 in
theorem zq_cw40 : lw_tbl[421]? = some (Jvm.Cond.code (zq_nm 40) (zq_bc 40) (zq_ml 40) (zq_ret 40)) := rfl
set_option maxRecDepth 100000 in
theorem zq_cw41 : lw_tbl[370]? = some (Jvm.Cond.code (zq_nm 41) (zq_bc 41) (zq_ml 41) (zq_ret 41)) := rfl
set_option maxRecDepth 100000 in
theorem zq_cw42 : lw_tbl[337]? = some (Jvm.Cond.code (zq_nm 42) (zq_bc 42) (zq_ml 42) (zq_ret 42)) := rfl
set_option maxRecDepth 100000 in
theorem zq_cw43 : lw_tbl[158]? = some (Jvm.Cond.code (zq_nm 43) (zq_bc 43) (zq_ml 43) (zq_ret 43)) := rfl
set_option maxRecDepth 100000 in
theorem zq_cw44 : lw_tbl[300]? = some (Jvm.Cond.code (zq_nm 44) (zq_bc 44) (zq_ml 44) (zq_ret 44)) := rfl
set_option maxRecDepth 100000 in
theorem zq_cw45 : lw_tbl[317]? = some (Jvm.Cond.code (zq_nm 45) (zq_bc 45) (zq_ml 45) (zq_ret 45)) := rfl
set_option maxRecDepth 100000 in
theorem zq_cw46 : lw_tbl[409]? = some (Jvm.Cond.code (zq_nm 46) (zq_bc 46) (zq_ml 46) (zq_ret 46)) := rfl
set_option maxRecDepth 100000 in
theorem zq_cw47 : lw_tbl[350]? = some (Jvm.Cond.code (zq_nm 47) (zq_bc 47) (zq_ml 47) (zq_ret 47)) := rfl
set_option maxRecDepth 100000 in
theorem zq_cw48 : lw_tbl[354]? = some (Jvm.Cond.code (zq_nm 48) (zq_bc 48) (zq_ml 48) (zq_ret 48)) := rfl
set_option maxRecDepth 100000 in
theorem zq_cw49 : lw_tbl[82]? = some (Jvm.Cond.code (zq_nm 49) (zq_bc 49) (zq_ml 49) (zq_ret 49)) := rfl
set_option maxRecDepth 100000 in
theorem zq_cw50 : lw_tbl[383]? = some (Jvm.Cond.code (zq_nm 50) (zq_bc 50) (zq_ml 50) (zq_ret 50)) := rfl
set_option maxRecDepth 100000 in
theorem zq_cw51 : lw_tbl[401]? = some (Jvm.Cond.code (zq_nm 51) (zq_bc 51) (zq_ml 51) (zq_ret 51)) := rfl
set_option maxRecDepth 100000 in
theorem zq_cw52 : lw_tbl[391]? = some (Jvm.Cond.code (zq_nm 52) (zq_bc 52) (zq_ml 52) (zq_ret 52)) := rfl
set_option maxRecDepth 100000 in
theorem zq_cw53 : lw_tbl[387]? = some (Jvm.Cond.code (zq_nm 53) (zq_bc 53) (zq_ml 53) (zq_ret 53)) := rfl
set_option maxRecDepth 100000 in
theorem zq_cw54 : lw_tbl[374]? = some (Jvm.Cond.code (zq_nm 54) (zq_bc 54) (zq_ml 54) (zq_ret 54)) := rfl
set_option maxRecDepth 100000 in
theorem zq_cw55 : lw_tbl[378]? = some (Jvm.Cond.code (zq_nm 55) (zq_bc 55) (zq_ml 55) (zq_ret 55)) := rfl
set_option maxRecDepth 100000 in
theorem zq_cw56 : lw_tbl[395]? = some (Jvm.Cond.code (zq_nm 56) (zq_bc 56) (zq_ml 56) (zq_ret 56)) := rfl
set_option maxRecDepth 100000 in
theorem zq_cw57 : lw_tbl[55]? = some (Jvm.Cond.code (zq_nm 57) (zq_bc 57) (zq_ml 57) (zq_ret 57)) := rfl
set_option maxRecDepth 100000 in
theorem zq_cw58 : lw_tbl[215]? = some (Jvm.Cond.code (zq_nm 58) (zq_bc 58) (zq_ml 58) (zq_ret 58)) := rfl
set_option maxRecDepth 100000 in
theorem zq_cw59 : lw_tbl[104]? = some (Jvm.Cond.code (zq_nm 59) (zq_bc 59) (zq_ml 59) (zq_ret 59)) := rfl
set_option maxRecDepth 100000 in
theorem zq_cw60 : lw_tbl[331]? = some (Jvm.Cond.code (zq_nm 60) (zq_bc 60) (zq_ml 60) (zq_ret 60)) := rfl
set_option maxRecDepth 100000 in
theorem zq_cw61 : lw_tbl[250]? = some (Jvm.Cond.code (zq_nm 61) (zq_bc 61) (zq_ml 61) (zq_ret 61)) := rfl
set_option maxRecDepth 100000 in
theorem zq_cw62 : lw_tbl[280]? = some (Jvm.Cond.code (zq_nm 62) (zq_bc 62) (zq_ml 62) (zq_ret 62)) := rfl
set_option maxRecDepth 100000 in
theorem zq_cw63 : lw_tbl[231]? = some (Jvm.Cond.code (zq_nm 63) (zq_bc 63) (zq_ml 63) (zq_ret 63)) := rfl
set_option maxRecDepth 100000 in
theorem zq_cw64 : lw_tbl[164]? = some (Jvm.Cond.code (zq_nm 64) (zq_bc 64) (zq_ml 64) (zq_ret 64)) := rfl
set_option maxRecDepth 100000 in
theorem zq_cw65 : lw_tbl[272]? = some (Jvm.Cond.code (zq_nm 65) (zq_bc 65) (zq_ml 65) (zq_ret 65)) := rfl
set_option maxRecDepth 100000 in
theorem zq_cw66 : lw_tbl[246]? = some (Jvm.Cond.code (zq_nm 66) (zq_bc 66) (zq_ml 66) (zq_ret 66)) := rfl
set_option maxRecDepth 100000 in
theorem zq_cw67 : lw_tbl[346]? = some (Jvm.Cond.code (zq_nm 67) (zq_bc 67) (zq_ml 67) (zq_ret 67)) := rfl
set_option maxRecDepth 100000 in
theorem zq_cw68 : lw_tbl[242]? = some (Jvm.Cond.code (zq_nm 68) (zq_bc 68) (zq_ml 68) (zq_ret 68)) := rfl
set_option maxRecDepth 100000 in
theorem zq_cw69 : lw_tbl[342]? = some (Jvm.Cond.code (zq_nm 69) (zq_bc 69) (zq_ml 69) (zq_ret 69)) := rfl
set_option maxRecDepth 100000 in
theorem zq_cw70 : lw_tbl[208]? = some (Jvm.Cond.code (zq_nm 70) (zq_bc 70) (zq_ml 70) (zq_ret 70)) := rfl
set_option maxRecDepth 100000 in
theorem zq_cw71 : lw_tbl[291]? = some (Jvm.Cond.code (zq_nm 71) (zq_bc 71) (zq_ml 71) (zq_ret 71)) := rfl
set_option maxRecDepth 100000 in
theorem zq_cw72 : lw_tbl[284]? = some (Jvm.Cond.code (zq_nm 72) (zq_bc 72) (zq_ml 72) (zq_ret 72)) := rfl
set_option maxRecDepth 100000 in
theorem zq_cw73 : lw_tbl[313]? = some (Jvm.Cond.code (zq_nm 73) (zq_bc 73) (zq_ml 73) (zq_ret 73)) := rfl
set_option maxRecDepth 100000 in
theorem zq_cw74 : lw_tbl[309]? = some (Jvm.Cond.code (zq_nm 74) (zq_bc 74) (zq_ml 74) (zq_ret 74)) := rfl
set_option maxRecDepth 100000 in
theorem zq_cw75 : lw_tbl[235]? = some (Jvm.Cond.code (zq_nm 75) (zq_bc 75) (zq_ml 75) (zq_ret 75)) := rfl
set_option maxRecDepth 100000 in
theorem zq_cw76 : lw_tbl[483]? = some (Jvm.Cond.code (zq_nm 76) (zq_bc 76) (zq_ml 76) (zq_ret 76)) := rfl
set_option maxRecDepth 100000 in
theorem zq_cw77 : lw_tbl[559]? = some (Jvm.Cond.code (zq_nm 77) (zq_bc 77) (zq_ml 77) (zq_ret 77)) := rfl
set_option maxRecDepth 100000 in
theorem zq_cw78 : lw_tbl[555]? = some (Jvm.Cond.code (zq_nm 78) (zq_bc 78) (zq_ml 78) (zq_ret 78)) := rfl
set_option maxRecDepth 100000 in
theorem zq_cw79 : lw_tbl[563]? = some (Jvm.Cond.code (zq_nm 79) (zq_bc 79) (zq_ml 79) (zq_ret 79)) := rfl
set_option maxRecDepth 100000 in
theorem zq_cw80 : lw_tbl[571]? = some (Jvm.Cond.code (zq_nm 80) (zq_bc 80) (zq_ml 80) (zq_ret 80)) := rfl
set_option maxRecDepth 100000 in
theorem zq_cw81 : lw_tbl[579]? = some (Jvm.Cond.code (zq_nm 81) (zq_bc 81) (zq_ml 81) (zq_ret 81)) := rfl
set_option maxRecDepth 100000 in
theorem zq_cw82 : lw_tbl[575]? = some (Jvm.Cond.code (zq_nm 82) (zq_bc 82) (zq_ml 82) (zq_ret 82)) := rfl
set_option maxRecDepth 100000 in
theorem zq_cw83 : lw_tbl[583]? = some (Jvm.Cond.code (zq_nm 83) (zq_bc 83) (zq_ml 83) (zq_ret 83)) := rfl
set_option maxRecDepth 100000 in
theorem zq_cw84 : lw_tbl[567]? = some (Jvm.Cond.code (zq_nm 84) (zq_bc 84) (zq_ml 84) (zq_ret 84)) := rfl
set_option maxRecDepth 100000 in
theorem zq_cw85 : lw_tbl[587]? = some (Jvm.Cond.code (zq_nm 85) (zq_bc 85) (zq_ml 85) (zq_ret 85)) := rfl
set_option maxRecDepth 100000 in
theorem zq_cw86 : lw_tbl[591]? = some (Jvm.Cond.code (zq_nm 86) (zq_bc 86) (zq_ml 86) (zq_ret 86)) := rfl
set_option maxRecDepth 100000 in
theorem zq_cw87 : lw_tbl[603]? = some (Jvm.Cond.code (zq_nm 87) (zq_bc 87) (zq_ml 87) (zq_ret 87)) := rfl
set_option maxRecDepth 100000 in
theorem zq_cw88 : lw_tbl[607]? = some (Jvm.Cond.code (zq_nm 88) (zq_bc 88) (zq_ml 88) (zq_ret 88)) := rfl
set_option maxRecDepth 100000 in
theorem zq_cw89 : lw_tbl[599]? = some (Jvm.Cond.code (zq_nm 89) (zq_bc 89) (zq_ml 89) (zq_ret 89)) := rfl
set_option maxRecDepth 100000 in
theorem zq_cw90 : lw_tbl[615]? = some (Jvm.Cond.code (zq_nm 90) (zq_bc 90) (zq_ml 90) (zq_ret 90)) := rfl
set_option maxRecDepth 100000 in
theorem zq_cw91 : lw_tbl[619]? = some (Jvm.Cond.code (zq_nm 91) (zq_bc 91) (zq_ml 91) (zq_ret 91)) := rfl
set_option maxRecDepth 100000 in
theorem zq_cw92 : lw_tbl[623]? = some (Jvm.Cond.code (zq_nm 92) (zq_bc 92) (zq_ml 92) (zq_ret 92)) := rfl
set_option maxRecDepth 100000 in
theorem zq_cw93 : lw_tbl[611]? = some (Jvm.Cond.code (zq_nm 93) (zq_bc 93) (zq_ml 93) (zq_ret 93)) := rfl
set_option maxRecDepth 100000 in
theorem zq_cw94 : lw_tbl[627]? = some (Jvm.Cond.code (zq_nm 94) (zq_bc 94) (zq_ml 94) (zq_ret 94)) := rfl
set_option maxRecDepth 100000 in
theorem zq_cw95 : lw_tbl[595]? = some (Jvm.Cond.code (zq_nm 95) (zq_bc 95) (zq_ml 95) (zq_ret 95)) := rfl
set_option maxRecDepth 100000 in
theorem zq_cw96 : lw_tbl[631]? = some (Jvm.Cond.code (zq_nm 96) (zq_bc 96) (zq_ml 96) (zq_ret 96)) := rfl
set_option maxRecDepth 100000 in
theorem zq_cw97 : lw_tbl[635]? = some (Jvm.Cond.code (zq_nm 97) (zq_bc 97) (zq_ml 97) (zq_ret 97)) := rfl
set_option maxRecDepth 100000 in
theorem zq_cw98 : lw_tbl[639]? = some (Jvm.Cond.code (zq_nm 98) (zq_bc 98) (zq_ml 98) (zq_ret 98)) := rfl
set_option maxRecDepth 100000 in
theorem zq_cw99 : lw_tbl[647]? = some (Jvm.Cond.code (zq_nm 99) (zq_bc 99) (zq_ml 99) (zq_ret 99)) := rfl
set_option maxRecDepth 100000 in
theorem zq_cw100 : lw_tbl[643]? = some (Jvm.Cond.code (zq_nm 100) (zq_bc 100) (zq_ml 100) (zq_ret 100)) := rfl
set_option maxRecDepth 100000 in
theorem zq_cw101 : lw_tbl[652]? = some (Jvm.Cond.code (zq_nm 101) (zq_bc 101) (zq_ml 101) (zq_ret 101)) := rfl
set_option maxRecDepth 100000 in
theorem zq_cw102 : lw_tbl[656]? = some (Jvm.Cond.code (zq_nm 102) (zq_bc 102) (zq_ml 102) (zq_ret 102)) := rfl
set_option maxRecDepth 100000 in
theorem zq_cw103 : lw_tbl[660]? = some (Jvm.Cond.code (zq_nm 103) (zq_bc 103) (zq_ml 103) (zq_ret 103)) := rfl
set_option maxRecDepth 100000 in
theorem zq_cw104 : lw_tbl[664]? = some (Jvm.Cond.code (zq_nm 104) (zq_bc 104) (zq_ml 104) (zq_ret 104)) := rfl
set_option maxRecDepth 100000 in
theorem zq_cw105 : lw_tbl[668]? = some (Jvm.Cond.code (zq_nm 105) (zq_bc 105) (zq_ml 105) (zq_ret 105)) := rfl
set_option maxRecDepth 100000 in
theorem zq_cw106 : lw_tbl[676]? = some (Jvm.Cond.code (zq_nm 106) (zq_bc 106) (zq_ml 106) (zq_ret 106)) := rfl
set_option maxRecDepth 100000 in
theorem zq_cw107 : lw_tbl[672]? = some (Jvm.Cond.code (zq_nm 107) (zq_bc 107) (zq_ml 107) (zq_ret 107)) := rfl
set_option maxRecDepth 100000 in
theorem zq_cw108 : lw_tbl[680]? = some (Jvm.Cond.code (zq_nm 108) (zq_bc 108) (zq_ml 108) (zq_ret 108)) := rfl
set_option maxRecDepth 100000 in
theorem zq_cw109 : lw_tbl[684]? = some (Jvm.Cond.code (zq_nm 109) (zq_bc 109) (zq_ml 109) (zq_ret 109)) := rfl
set_option maxRecDepth 100000 in
theorem zq_cw110 : lw_tbl[688]? = some (Jvm.Cond.code (zq_nm 110) (zq_bc 110) (zq_ml 110) (zq_ret 110)) := rfl
set_option maxRecDepth 100000 in
theorem zq_cw111 : lw_tbl[692]? = some (Jvm.Cond.code (zq_nm 111) (zq_bc 111) (zq_ml 111) (zq_ret 111)) := rfl
theorem zq_cw_ok (i : Nat) (h0 : 0 < i) (h : i < zq_NM) : lw_tbl[(zq_wp i).1]? = some (Jvm.Cond.code (zq_nm i) (zq_bc i) (zq_ml i) (zq_ret i)) := match i, h0, h with
  | 1, _, _ => zq_cw1
  | 2, _, _ => zq_cw2
  | 3, _, _ => zq_cw3
  | 4, _, _ => zq_cw4
  | 5, _, _ => zq_cw5
  | 6, _, _ => zq_cw6
  | 7, _, _ => zq_cw7
  | 8, _, _ => zq_cw8
  | 9, _, _ => zq_cw9
  | 10, _, _ => zq_cw10
  | 11, _, _ => zq_cw11
  | 12, _, _ => zq_cw12
  | 13, _, _ => zq_cw13
  | 14, _, _ => zq_cw14
  | 15, _, _ => zq_cw15
  | 16, _, _ => zq_cw16
  | 17, _, _ => zq_cw17
  | 18, _, _ => zq_cw18
  | 19, _, _ => zq_cw19
  | 20, _, _ => zq_cw20
  | 21, _, _ => zq_cw21
  | 22, _, _ => zq_cw22
  | 23, _, _ => zq_cw23
  | 24, _, _ => zq_cw24
  | 25, _, _ => zq_cw25
  | 26, _, _ => zq_cw26
  | 27, _, _ => zq_cw27
  | 28, _, _ => zq_cw28
  | 29, _, _ => zq_cw29
  | 30, _, _ => zq_cw30
  | 31, _, _ => zq_cw31
  | 32, _, _ => zq_cw32
  | 33, _, _ => zq_cw33
  | 34, _, _ => zq_cw34
  | 35, _, _ => zq_cw35
  | 36, _, _ => zq_cw36
  | 37, _, _ => zq_cw37
  | 38, _, _ => zq_cw38
  | 39, _, _ => zq_cw39
  | 40, _, _ => zq_cw40
  | 41, _, _ => zq_cw41
  | 42, _, _ => zq_cw42
  | 43, _, _ => zq_cw43
  | 44, _, _ => zq_cw44
  | 45, _, _ => zq_cw45
  | 46, _, _ => zq_cw46
  | 47, _, _ => zq_cw47
  | 48, _, _ => zq_cw48
  | 49, _, _ => zq_cw49
  | 50, _, _ => zq_cw50
  | 51, _, _ => zq_cw51
  | 52, _, _ => zq_cw52
  | 53, _, _ => zq_cw53
  | 54, _, _ => zq_cw54
  | 55, _, _ => zq_cw55
  | 56, _, _ => zq_cw56
  | 57, _, _ => zq_cw57
  | 58, _, _ => zq_cw58
  | 59, _, _ => zq_cw59
  | 60, _, _ => zq_cw60
  | 61, _, _ => zq_cw61
  | 62, _, _ => zq_cw62
  | 63, _, _ => zq_cw63
  | 64, _, _ => zq_cw64
  | 65, _, _ => zq_cw65
  | 66, _, _ => zq_cw66
  | 67, _, _ => zq_cw67
  | 68, _, _ => zq_cw68
  | 69, _, _ => zq_cw69
  | 70, _, _ => zq_cw70
  | 71, _, _ => zq_cw71
  | 72, _, _ => zq_cw72
  | 73, _, _ => zq_cw73
  | 74, _, _ => zq_cw74
  | 75, _, _ => zq_cw75
  | 76, _, _ => zq_cw76
  | 77, _, _ => zq_cw77
  | 78, _, _ => zq_cw78
  | 79, _, _ => zq_cw79
  | 80, _, _ => zq_cw80
  | 81, _, _ => zq_cw81
  | 82, _, _ => zq_cw82
  | 83, _, _ => zq_cw83
  | 84, _, _ => zq_cw84
  | 85, _, _ => zq_cw85
  | 86, _, _ => zq_cw86
  | 87, _, _ => zq_cw87
  | 88, _, _ => zq_cw88
  | 89, _, _ => zq_cw89
  | 90, _, _ => zq_cw90
  | 91, _, _ => zq_cw91
  | 92, _, _ => zq_cw92
  | 93, _, _ => zq_cw93
  | 94, _, _ => zq_cw94
  | 95, _, _ => zq_cw95
  | 96, _, _ => zq_cw96
  | 97, _, _ => zq_cw97
  | 98, _, _ => zq_cw98
  | 99, _, _ => zq_cw99
  | 100, _, _ => zq_cw100
  | 101, _, _ => zq_cw101
  | 102, _, _ => zq_cw102
  | 103, _, _ => zq_cw103
  | 104, _, _ => zq_cw104
  | 105, _, _ => zq_cw105
  | 106, _, _ => zq_cw106
  | 107, _, _ => zq_cw107
  | 108, _, _ => zq_cw108
  | 109, _, _ => zq_cw109
  | 110, _, _ => zq_cw110
  | 111, _, _ => zq_cw111
  | n + 112, _, h => absurd h (by show ¬ n + 112 < 112; omega)
