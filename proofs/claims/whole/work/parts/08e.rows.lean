theorem ml_RL_7m : Cond.methodLink RL 7 (a_y 131) ∈ a_tb := (a_tbm (List.mem_of_getElem? (i := 1261) (by decide +kernel)) rfl)
theorem ml_RL_7 : a_ml RL 7 131 := Or.inl ml_RL_7m
theorem mw131 : a_mw 131 1 := ⟨(a_tbm (List.mem_of_getElem? (i := 1264) (by decide +kernel)) rfl), (a_tbm (List.mem_of_getElem? (i := 150) (by decide +kernel)) rfl), ⟨by decide +kernel, by decide +kernel⟩, by decide +kernel, by decide +kernel, ⟨by decide +kernel, by decide⟩⟩
theorem im131 : Cond.instanceMethod (a_y 131) ∈ a_tb := (a_tbm (List.mem_of_getElem? (i := 1262) (by decide +kernel)) rfl)
theorem sel131 : Cond.selects (a_y 131).cls (a_y 131) (a_y 131) ∈ a_tb := (a_tbm (List.mem_of_getElem? (i := 1263) (by decide +kernel)) rfl)
theorem mw74 : a_mw 74 0 := ⟨(a_tbm (List.mem_of_getElem? (i := 178) (by decide +kernel)) rfl), (a_tbm (List.mem_of_getElem? (i := 150) (by decide +kernel)) rfl), ⟨by decide +kernel, by decide +kernel⟩, by decide +kernel, by decide +kernel, ⟨by decide +kernel, by decide⟩⟩
theorem im74 : Cond.instanceMethod (a_y 74) ∈ a_tb := (a_tbm (List.mem_of_getElem? (i := 177) (by decide +kernel)) rfl)
theorem ml_RL_15m : Cond.methodLink RL 15 (a_y 74) ∈ a_tb := (a_tbm (List.mem_of_getElem? (i := 176) (by decide +kernel)) rfl)
theorem ml_RL_15 : a_ml RL 15 74 := Or.inl ml_RL_15m
theorem mw153 : a_mw 153 0 := ⟨(a_tbm (List.mem_of_getElem? (i := 1331) (by decide +kernel)) rfl), (a_tbm (List.mem_of_getElem? (i := 166) (by decide +kernel)) rfl), ⟨by decide +kernel, by decide +kernel⟩, by decide +kernel, by decide +kernel, ⟨by decide +kernel, by decide⟩⟩
theorem im153 : Cond.instanceMethod (a_y 153) ∈ a_tb := (a_tbm (List.mem_of_getElem? (i := 1330) (by decide +kernel)) rfl)
theorem ml_RL_18m : Cond.methodLink RL 18 (a_y 153) ∈ a_tb := (a_tbm (List.mem_of_getElem? (i := 1329) (by decide +kernel)) rfl)
theorem ml_RL_18 : a_ml RL 18 153 := Or.inl ml_RL_18m
theorem mw75 : a_mw 75 5 := ⟨(a_tbm (List.mem_of_getElem? (i := 664) (by decide +kernel)) rfl), (a_tbm (List.mem_of_getElem? (i := 150) (by decide +kernel)) rfl), ⟨by decide +kernel, by decide +kernel⟩, by decide +kernel, by decide +kernel, ⟨by decide +kernel, by decide⟩⟩
theorem im75 : Cond.instanceMethod (a_y 75) ∈ a_tb := (a_tbm (List.mem_of_getElem? (i := 662) (by decide +kernel)) rfl)
theorem sel75 : Cond.selects (a_y 75).cls (a_y 75) (a_y 75) ∈ a_tb := (a_tbm (List.mem_of_getElem? (i := 663) (by decide +kernel)) rfl)
theorem ml_RL_19m : Cond.methodLink RL 19 (a_y 75) ∈ a_tb := (a_tbm (List.mem_of_getElem? (i := 661) (by decide +kernel)) rfl)
theorem ml_RL_19 : a_ml RL 19 75 := Or.inl ml_RL_19m
theorem mw193 : a_mw 193 5 := ⟨(a_tbm (List.mem_of_getElem? (i := 1434) (by decide +kernel)) rfl), (a_tbm (List.mem_of_getElem? (i := 166) (by decide +kernel)) rfl), ⟨by decide +kernel, by decide +kernel⟩, by decide +kernel, by decide +kernel, ⟨by decide +kernel, by decide⟩⟩
theorem im193 : Cond.instanceMethod (a_y 193) ∈ a_tb := (a_tbm (List.mem_of_getElem? (i := 1432) (by decide +kernel)) rfl)
theorem sel193 : Cond.selects (a_y 193).cls (a_y 193) (a_y 193) ∈ a_tb := (a_tbm (List.mem_of_getElem? (i := 1433) (by decide +kernel)) rfl)
theorem ml_RL_23m : Cond.methodLink RL 23 (a_y 193) ∈ a_tb := (a_tbm (List.mem_of_getElem? (i := 1431) (by decide +kernel)) rfl)
theorem ml_RL_23 : a_ml RL 23 193 := Or.inl ml_RL_23m
theorem mw77 : a_mw 77 1 := ⟨(a_tbm (List.mem_of_getElem? (i := 672) (by decide +kernel)) rfl), (a_tbm (List.mem_of_getElem? (i := 150) (by decide +kernel)) rfl), ⟨by decide +kernel, by decide +kernel⟩, by decide +kernel, by decide +kernel, ⟨by decide +kernel, by decide⟩⟩
theorem im77 : Cond.instanceMethod (a_y 77) ∈ a_tb := (a_tbm (List.mem_of_getElem? (i := 670) (by decide +kernel)) rfl)
theorem sel77 : Cond.selects (a_y 77).cls (a_y 77) (a_y 77) ∈ a_tb := (a_tbm (List.mem_of_getElem? (i := 671) (by decide +kernel)) rfl)
theorem ml_RL_24m : Cond.methodLink RL 24 (a_y 77) ∈ a_tb := (a_tbm (List.mem_of_getElem? (i := 669) (by decide +kernel)) rfl)
theorem ml_RL_24 : a_ml RL 24 77 := Or.inl ml_RL_24m
theorem mw194 : a_mw 194 1 := ⟨(a_tbm (List.mem_of_getElem? (i := 1438) (by decide +kernel)) rfl), (a_tbm (List.mem_of_getElem? (i := 166) (by decide +kernel)) rfl), ⟨by decide +kernel, by decide +kernel⟩, by decide +kernel, by decide +kernel, ⟨by decide +kernel, by decide⟩⟩
theorem im194 : Cond.instanceMethod (a_y 194) ∈ a_tb := (a_tbm (List.mem_of_getElem? (i := 1436) (by decide +kernel)) rfl)
theorem sel194 : Cond.selects (a_y 194).cls (a_y 194) (a_y 194) ∈ a_tb := (a_tbm (List.mem_of_getElem? (i := 1437) (by decide +kernel)) rfl)
theorem ml_RL_27m : Cond.methodLink RL 27 (a_y 194) ∈ a_tb := (a_tbm (List.mem_of_getElem? (i := 1435) (by decide +kernel)) rfl)
theorem ml_RL_27 : a_ml RL 27 194 := Or.inl ml_RL_27m
theorem mw78 : a_mw 78 0 := ⟨(a_tbm (List.mem_of_getElem? (i := 826) (by decide +kernel)) rfl), (a_tbm (List.mem_of_getElem? (i := 150) (by decide +kernel)) rfl), ⟨by decide +kernel, by decide +kernel⟩, by decide +kernel, by decide +kernel, ⟨by decide +kernel, by decide⟩⟩
theorem im78 : Cond.instanceMethod (a_y 78) ∈ a_tb := (a_tbm (List.mem_of_getElem? (i := 824) (by decide +kernel)) rfl)
theorem sel78 : Cond.selects (a_y 78).cls (a_y 78) (a_y 78) ∈ a_tb := (a_tbm (List.mem_of_getElem? (i := 825) (by decide +kernel)) rfl)
theorem ml_RL_28m : Cond.methodLink RL 28 (a_y 78) ∈ a_tb := (a_tbm (List.mem_of_getElem? (i := 823) (by decide +kernel)) rfl)
theorem ml_RL_28 : a_ml RL 28 78 := Or.inl ml_RL_28m
theorem mw195 : a_mw 195 0 := ⟨(a_tbm (List.mem_of_getElem? (i := 1754) (by decide +kernel)) rfl), (a_tbm (List.mem_of_getElem? (i := 166) (by decide +kernel)) rfl), ⟨by decide +kernel, by decide +kernel⟩, by decide +kernel, by decide +kernel, ⟨by decide +kernel, by decide⟩⟩
theorem im195 : Cond.instanceMethod (a_y 195) ∈ a_tb := (a_tbm (List.mem_of_getElem? (i := 1752) (by decide +kernel)) rfl)
theorem sel195 : Cond.selects (a_y 195).cls (a_y 195) (a_y 195) ∈ a_tb := (a_tbm (List.mem_of_getElem? (i := 1753) (by decide +kernel)) rfl)
theorem ml_RL_32m : Cond.methodLink RL 32 (a_y 195) ∈ a_tb := (a_tbm (List.mem_of_getElem? (i := 1751) (by decide +kernel)) rfl)
theorem ml_RL_32 : a_ml RL 32 195 := Or.inl ml_RL_32m
theorem mw79 : a_mw 79 0 := ⟨(a_tbm (List.mem_of_getElem? (i := 830) (by decide +kernel)) rfl), (a_tbm (List.mem_of_getElem? (i := 150) (by decide +kernel)) rfl), ⟨by decide +kernel, by decide +kernel⟩, by decide +kernel, by decide +kernel, ⟨by decide +kernel, by decide⟩⟩
theorem im79 : Cond.instanceMethod (a_y 79) ∈ a_tb := (a_tbm (List.mem_of_getElem? (i := 828) (by decide +kernel)) rfl)
theorem sel79 : Cond.selects (a_y 79).cls (a_y 79) (a_y 79) ∈ a_tb := (a_tbm (List.mem_of_getElem? (i := 829) (by decide +kernel)) rfl)
theorem ml_RL_33m : Cond.methodLink RL 33 (a_y 79) ∈ a_tb := (a_tbm (List.mem_of_getElem? (i := 827) (by decide +kernel)) rfl)
theorem ml_RL_33 : a_ml RL 33 79 := Or.inl ml_RL_33m
theorem mw196 : a_mw 196 0 := ⟨(a_tbm (List.mem_of_getElem? (i := 1758) (by decide +kernel)) rfl), (a_tbm (List.mem_of_getElem? (i := 166) (by decide +kernel)) rfl), ⟨by decide +kernel, by decide +kernel⟩, by decide +kernel, by decide +kernel, ⟨by decide +kernel, by decide⟩⟩
theorem im196 : Cond.instanceMethod (a_y 196) ∈ a_tb := (a_tbm (List.mem_of_getElem? (i := 1756) (by decide +kernel)) rfl)
theorem sel196 : Cond.selects (a_y 196).cls (a_y 196) (a_y 196) ∈ a_tb := (a_tbm (List.mem_of_getElem? (i := 1757) (by decide +kernel)) rfl)
theorem ml_RL_36m : Cond.methodLink RL 36 (a_y 196) ∈ a_tb := (a_tbm (List.mem_of_getElem? (i := 1755) (by decide +kernel)) rfl)
theorem ml_RL_36 : a_ml RL 36 196 := Or.inl ml_RL_36m
theorem mw80 : a_mw 80 2 := ⟨(a_tbm (List.mem_of_getElem? (i := 834) (by decide +kernel)) rfl), (a_tbm (List.mem_of_getElem? (i := 150) (by decide +kernel)) rfl), ⟨by decide +kernel, by decide +kernel⟩, by decide +kernel, by decide +kernel, ⟨by decide +kernel, by decide⟩⟩
theorem im80 : Cond.instanceMethod (a_y 80) ∈ a_tb := (a_tbm (List.mem_of_getElem? (i := 832) (by decide +kernel)) rfl)
theorem sel80 : Cond.selects (a_y 80).cls (a_y 80) (a_y 80) ∈ a_tb := (a_tbm (List.mem_of_getElem? (i := 833) (by decide +kernel)) rfl)
theorem ml_RL_37m : Cond.methodLink RL 37 (a_y 80) ∈ a_tb := (a_tbm (List.mem_of_getElem? (i := 831) (by decide +kernel)) rfl)
theorem ml_RL_37 : a_ml RL 37 80 := Or.inl ml_RL_37m
theorem mw215 : a_mw 215 2 := ⟨(a_tbm (List.mem_of_getElem? (i := 1762) (by decide +kernel)) rfl), (a_tbm (List.mem_of_getElem? (i := 166) (by decide +kernel)) rfl), ⟨by decide +kernel, by decide +kernel⟩, by decide +kernel, by decide +kernel, ⟨by decide +kernel, by decide⟩⟩
theorem im215 : Cond.instanceMethod (a_y 215) ∈ a_tb := (a_tbm (List.mem_of_getElem? (i := 1760) (by decide +kernel)) rfl)
theorem sel215 : Cond.selects (a_y 215).cls (a_y 215) (a_y 215) ∈ a_tb := (a_tbm (List.mem_of_getElem? (i := 1761) (by decide +kernel)) rfl)
theorem ml_RL_41m : Cond.methodLink RL 41 (a_y 215) ∈ a_tb := (a_tbm (List.mem_of_getElem? (i := 1759) (by decide +kernel)) rfl)
theorem ml_RL_41 : a_ml RL 41 215 := Or.inl ml_RL_41m
theorem mw81 : a_mw 81 2 := ⟨(a_tbm (List.mem_of_getElem? (i := 846) (by decide +kernel)) rfl), (a_tbm (List.mem_of_getElem? (i := 150) (by decide +kernel)) rfl), ⟨by decide +kernel, by decide +kernel⟩, by decide +kernel, by decide +kernel, ⟨by decide +kernel, by decide⟩⟩
theorem im81 : Cond.instanceMethod (a_y 81) ∈ a_tb := (a_tbm (List.mem_of_getElem? (i := 844) (by decide +kernel)) rfl)
theorem sel81 : Cond.selects (a_y 81).cls (a_y 81) (a_y 81) ∈ a_tb := (a_tbm (List.mem_of_getElem? (i := 845) (by decide +kernel)) rfl)
theorem ml_RL_42m : Cond.methodLink RL 42 (a_y 81) ∈ a_tb := (a_tbm (List.mem_of_getElem? (i := 843) (by decide +kernel)) rfl)
theorem ml_RL_42 : a_ml RL 42 81 := Or.inl ml_RL_42m
theorem mw217 : a_mw 217 2 := ⟨(a_tbm (List.mem_of_getElem? (i := 1774) (by decide +kernel)) rfl), (a_tbm (List.mem_of_getElem? (i := 166) (by decide +kernel)) rfl), ⟨by decide +kernel, by decide +kernel⟩, by decide +kernel, by decide +kernel, ⟨by decide +kernel, by decide⟩⟩
theorem im217 : Cond.instanceMethod (a_y 217) ∈ a_tb := (a_tbm (List.mem_of_getElem? (i := 1772) (by decide +kernel)) rfl)
theorem sel217 : Cond.selects (a_y 217).cls (a_y 217) (a_y 217) ∈ a_tb := (a_tbm (List.mem_of_getElem? (i := 1773) (by decide +kernel)) rfl)
theorem ml_RL_45m : Cond.methodLink RL 45 (a_y 217) ∈ a_tb := (a_tbm (List.mem_of_getElem? (i := 1771) (by decide +kernel)) rfl)
theorem ml_RL_45 : a_ml RL 45 217 := Or.inl ml_RL_45m
theorem mw82 : a_mw 82 2 := ⟨(a_tbm (List.mem_of_getElem? (i := 872) (by decide +kernel)) rfl), (a_tbm (List.mem_of_getElem? (i := 150) (by decide +kernel)) rfl), ⟨by decide +kernel, by decide +kernel⟩, by decide +kernel, by decide +kernel, ⟨by decide +kernel, by decide⟩⟩
theorem im82 : Cond.instanceMethod (a_y 82) ∈ a_tb := (a_tbm (List.mem_of_getElem? (i := 870) (by decide +kernel)) rfl)
theorem sel82 : Cond.selects (a_y 82).cls (a_y 82) (a_y 82) ∈ a_tb := (a_tbm (List.mem_of_getElem? (i := 871) (by decide +kernel)) rfl)
theorem ml_RL_46m : Cond.methodLink RL 46 (a_y 82) ∈ a_tb := (a_tbm (List.mem_of_getElem? (i := 869) (by decide +kernel)) rfl)
theorem ml_RL_46 : a_ml RL 46 82 := Or.inl ml_RL_46m
theorem mw218 : a_mw 218 2 := ⟨(a_tbm (List.mem_of_getElem? (i := 1790) (by decide +kernel)) rfl), (a_tbm (List.mem_of_getElem? (i := 166) (by decide +kernel)) rfl), ⟨by decide +kernel, by decide +kernel⟩, by decide +kernel, by decide +kernel, ⟨by decide +kernel, by decide⟩⟩
theorem im218 : Cond.instanceMethod (a_y 218) ∈ a_tb := (a_tbm (List.mem_of_getElem? (i := 1788) (by decide +kernel)) rfl)
theorem sel218 : Cond.selects (a_y 218).cls (a_y 218) (a_y 218) ∈ a_tb := (a_tbm (List.mem_of_getElem? (i := 1789) (by decide +kernel)) rfl)
theorem ml_RL_49m : Cond.methodLink RL 49 (a_y 218) ∈ a_tb := (a_tbm (List.mem_of_getElem? (i := 1787) (by decide +kernel)) rfl)
theorem ml_RL_49 : a_ml RL 49 218 := Or.inl ml_RL_49m
theorem mw83 : a_mw 83 2 := ⟨(a_tbm (List.mem_of_getElem? (i := 880) (by decide +kernel)) rfl), (a_tbm (List.mem_of_getElem? (i := 150) (by decide +kernel)) rfl), ⟨by decide +kernel, by decide +kernel⟩, by decide +kernel, by decide +kernel, ⟨by decide +kernel, by decide⟩⟩
theorem im83 : Cond.instanceMethod (a_y 83) ∈ a_tb := (a_tbm (List.mem_of_getElem? (i := 878) (by decide +kernel)) rfl)
theorem sel83 : Cond.selects (a_y 83).cls (a_y 83) (a_y 83) ∈ a_tb := (a_tbm (List.mem_of_getElem? (i := 879) (by decide +kernel)) rfl)
theorem ml_RL_50m : Cond.methodLink RL 50 (a_y 83) ∈ a_tb := (a_tbm (List.mem_of_getElem? (i := 877) (by decide +kernel)) rfl)
theorem ml_RL_50 : a_ml RL 50 83 := Or.inl ml_RL_50m
theorem mw220 : a_mw 220 2 := ⟨(a_tbm (List.mem_of_getElem? (i := 1798) (by decide +kernel)) rfl), (a_tbm (List.mem_of_getElem? (i := 166) (by decide +kernel)) rfl), ⟨by decide +kernel, by decide +kernel⟩, by decide +kernel, by decide +kernel, ⟨by decide +kernel, by decide⟩⟩
theorem im220 : Cond.instanceMethod (a_y 220) ∈ a_tb := (a_tbm (List.mem_of_getElem? (i := 1796) (by decide +kernel)) rfl)
theorem sel220 : Cond.selects (a_y 220).cls (a_y 220) (a_y 220) ∈ a_tb := (a_tbm (List.mem_of_getElem? (i := 1797) (by decide +kernel)) rfl)
theorem ml_RL_53m : Cond.methodLink RL 53 (a_y 220) ∈ a_tb := (a_tbm (List.mem_of_getElem? (i := 1795) (by decide +kernel)) rfl)
theorem ml_RL_53 : a_ml RL 53 220 := Or.inl ml_RL_53m
theorem mw84 : a_mw 84 2 := ⟨(a_tbm (List.mem_of_getElem? (i := 898) (by decide +kernel)) rfl), (a_tbm (List.mem_of_getElem? (i := 150) (by decide +kernel)) rfl), ⟨by decide +kernel, by decide +kernel⟩, by decide +kernel, by decide +kernel, ⟨by decide +kernel, by decide⟩⟩
theorem im84 : Cond.instanceMethod (a_y 84) ∈ a_tb := (a_tbm (List.mem_of_getElem? (i := 896) (by decide +kernel)) rfl)
theorem sel84 : Cond.selects (a_y 84).cls (a_y 84) (a_y 84) ∈ a_tb := (a_tbm (List.mem_of_getElem? (i := 897) (by decide +kernel)) rfl)
theorem ml_RL_54m : Cond.methodLink RL 54 (a_y 84) ∈ a_tb := (a_tbm (List.mem_of_getElem? (i := 895) (by decide +kernel)) rfl)
theorem ml_RL_54 : a_ml RL 54 84 := Or.inl ml_RL_54m
theorem mw221 : a_mw 221 2 := ⟨(a_tbm (List.mem_of_getElem? (i := 1814) (by decide +kernel)) rfl), (a_tbm (List.mem_of_getElem? (i := 166) (by decide +kernel)) rfl), ⟨by decide +kernel, by decide +kernel⟩, by decide +kernel, by decide +kernel, ⟨by decide +kernel, by decide⟩⟩
theorem im221 : Cond.instanceMethod (a_y 221) ∈ a_tb := (a_tbm (List.mem_of_getElem? (i := 1812) (by decide +kernel)) rfl)
theorem sel221 : Cond.selects (a_y 221).cls (a_y 221) (a_y 221) ∈ a_tb := (a_tbm (List.mem_of_getElem? (i := 1813) (by decide +kernel)) rfl)
theorem ml_RL_57m : Cond.methodLink RL 57 (a_y 221) ∈ a_tb := (a_tbm (List.mem_of_getElem? (i := 1811) (by decide +kernel)) rfl)
theorem ml_RL_57 : a_ml RL 57 221 := Or.inl ml_RL_57m
theorem mw85 : a_mw 85 2 := ⟨(a_tbm (List.mem_of_getElem? (i := 915) (by decide +kernel)) rfl), (a_tbm (List.mem_of_getElem? (i := 150) (by decide +kernel)) rfl), ⟨by decide +kernel, by decide +kernel⟩, by decide +kernel, by decide +kernel, ⟨by decide +kernel, by decide⟩⟩
theorem im85 : Cond.instanceMethod (a_y 85) ∈ a_tb := (a_tbm (List.mem_of_getElem? (i := 913) (by decide +kernel)) rfl)
theorem sel85 : Cond.selects (a_y 85).cls (a_y 85) (a_y 85) ∈ a_tb := (a_tbm (List.mem_of_getElem? (i := 914) (by decide +kernel)) rfl)
theorem ml_RL_58m : Cond.methodLink RL 58 (a_y 85) ∈ a_tb := (a_tbm (List.mem_of_getElem? (i := 912) (by decide +kernel)) rfl)
theorem ml_RL_58 : a_ml RL 58 85 := Or.inl ml_RL_58m
theorem mw222 : a_mw 222 2 := ⟨(a_tbm (List.mem_of_getElem? (i := 1830) (by decide +kernel)) rfl), (a_tbm (List.mem_of_getElem? (i := 166) (by decide +kernel)) rfl), ⟨by decide +kernel, by decide +kernel⟩, by decide +kernel, by decide +kernel, ⟨by decide +kernel, by decide⟩⟩
theorem im222 : Cond.instanceMethod (a_y 222) ∈ a_tb := (a_tbm (List.mem_of_getElem? (i := 1828) (by decide +kernel)) rfl)
theorem sel222 : Cond.selects (a_y 222).cls (a_y 222) (a_y 222) ∈ a_tb := (a_tbm (List.mem_of_getElem? (i := 1829) (by decide +kernel)) rfl)
theorem ml_RL_61m : Cond.methodLink RL 61 (a_y 222) ∈ a_tb := (a_tbm (List.mem_of_getElem? (i := 1827) (by decide +kernel)) rfl)
theorem ml_RL_61 : a_ml RL 61 222 := Or.inl ml_RL_61m
theorem mw86 : a_mw 86 2 := ⟨(a_tbm (List.mem_of_getElem? (i := 923) (by decide +kernel)) rfl), (a_tbm (List.mem_of_getElem? (i := 150) (by decide +kernel)) rfl), ⟨by decide +kernel, by decide +kernel⟩, by decide +kernel, by decide +kernel, ⟨by decide +kernel, by decide⟩⟩
theorem im86 : Cond.instanceMethod (a_y 86) ∈ a_tb := (a_tbm (List.mem_of_getElem? (i := 921) (by decide +kernel)) rfl)
theorem sel86 : Cond.selects (a_y 86).cls (a_y 86) (a_y 86) ∈ a_tb := (a_tbm (List.mem_of_getElem? (i := 922) (by decide +kernel)) rfl)
theorem ml_RL_62m : Cond.methodLink RL 62 (a_y 86) ∈ a_tb := (a_tbm (List.mem_of_getElem? (i := 920) (by decide +kernel)) rfl)
theorem ml_RL_62 : a_ml RL 62 86 := Or.inl ml_RL_62m
theorem mw223 : a_mw 223 2 := ⟨(a_tbm (List.mem_of_getElem? (i := 1838) (by decide +kernel)) rfl), (a_tbm (List.mem_of_getElem? (i := 166) (by decide +kernel)) rfl), ⟨by decide +kernel, by decide +kernel⟩, by decide +kernel, by decide +kernel, ⟨by decide +kernel, by decide⟩⟩
theorem im223 : Cond.instanceMethod (a_y 223) ∈ a_tb := (a_tbm (List.mem_of_getElem? (i := 1836) (by decide +kernel)) rfl)
theorem sel223 : Cond.selects (a_y 223).cls (a_y 223) (a_y 223) ∈ a_tb := (a_tbm (List.mem_of_getElem? (i := 1837) (by decide +kernel)) rfl)
theorem ml_RL_65m : Cond.methodLink RL 65 (a_y 223) ∈ a_tb := (a_tbm (List.mem_of_getElem? (i := 1835) (by decide +kernel)) rfl)
theorem ml_RL_65 : a_ml RL 65 223 := Or.inl ml_RL_65m
theorem mw87 : a_mw 87 1 := ⟨(a_tbm (List.mem_of_getElem? (i := 938) (by decide +kernel)) rfl), (a_tbm (List.mem_of_getElem? (i := 150) (by decide +kernel)) rfl), ⟨by decide +kernel, by decide +kernel⟩, by decide +kernel, by decide +kernel, ⟨by decide +kernel, by decide⟩⟩
theorem im87 : Cond.instanceMethod (a_y 87) ∈ a_tb := (a_tbm (List.mem_of_getElem? (i := 936) (by decide +kernel)) rfl)
theorem sel87 : Cond.selects (a_y 87).cls (a_y 87) (a_y 87) ∈ a_tb := (a_tbm (List.mem_of_getElem? (i := 937) (by decide +kernel)) rfl)
theorem ml_RL_66m : Cond.methodLink RL 66 (a_y 87) ∈ a_tb := (a_tbm (List.mem_of_getElem? (i := 935) (by decide +kernel)) rfl)
theorem ml_RL_66 : a_ml RL 66 87 := Or.inl ml_RL_66m
theorem mw224 : a_mw 224 1 := ⟨(a_tbm (List.mem_of_getElem? (i := 1850) (by decide +kernel)) rfl), (a_tbm (List.mem_of_getElem? (i := 166) (by decide +kernel)) rfl), ⟨by decide +kernel, by decide +kernel⟩, by decide +kernel, by decide +kernel, ⟨by decide +kernel, by decide⟩⟩
theorem im224 : Cond.instanceMethod (a_y 224) ∈ a_tb := (a_tbm (List.mem_of_getElem? (i := 1848) (by decide +kernel)) rfl)
theorem sel224 : Cond.selects (a_y 224).cls (a_y 224) (a_y 224) ∈ a_tb := (a_tbm (List.mem_of_getElem? (i := 1849) (by decide +kernel)) rfl)
theorem ml_RL_69m : Cond.methodLink RL 69 (a_y 224) ∈ a_tb := (a_tbm (List.mem_of_getElem? (i := 1847) (by decide +kernel)) rfl)
theorem ml_RL_69 : a_ml RL 69 224 := Or.inl ml_RL_69m
theorem mw88 : a_mw 88 3 := ⟨(a_tbm (List.mem_of_getElem? (i := 943) (by decide +kernel)) rfl), (a_tbm (List.mem_of_getElem? (i := 150) (by decide +kernel)) rfl), ⟨by decide +kernel, by decide +kernel⟩, by decide +kernel, by decide +kernel, ⟨by decide +kernel, by decide⟩⟩
theorem im88 : Cond.instanceMethod (a_y 88) ∈ a_tb := (a_tbm (List.mem_of_getElem? (i := 941) (by decide +kernel)) rfl)
theorem sel88 : Cond.selects (a_y 88).cls (a_y 88) (a_y 88) ∈ a_tb := (a_tbm (List.mem_of_getElem? (i := 942) (by decide +kernel)) rfl)
theorem ml_RL_70m : Cond.methodLink RL 70 (a_y 88) ∈ a_tb := (a_tbm (List.mem_of_getElem? (i := 940) (by decide +kernel)) rfl)
theorem ml_RL_70 : a_ml RL 70 88 := Or.inl ml_RL_70m
theorem mw225 : a_mw 225 3 := ⟨(a_tbm (List.mem_of_getElem? (i := 1854) (by decide +kernel)) rfl), (a_tbm (List.mem_of_getElem? (i := 166) (by decide +kernel)) rfl), ⟨by decide +kernel, by decide +kernel⟩, by decide +kernel, by decide +kernel, ⟨by decide +kernel, by decide⟩⟩
theorem im225 : Cond.instanceMethod (a_y 225) ∈ a_tb := (a_tbm (List.mem_of_getElem? (i := 1852) (by decide +kernel)) rfl)
theorem sel225 : Cond.selects (a_y 225).cls (a_y 225) (a_y 225) ∈ a_tb := (a_tbm (List.mem_of_getElem? (i := 1853) (by decide +kernel)) rfl)
theorem ml_RL_74m : Cond.methodLink RL 74 (a_y 225) ∈ a_tb := (a_tbm (List.mem_of_getElem? (i := 1851) (by decide +kernel)) rfl)
theorem ml_RL_74 : a_ml RL 74 225 := Or.inl ml_RL_74m
theorem mw89 : a_mw 89 3 := ⟨(a_tbm (List.mem_of_getElem? (i := 973) (by decide +kernel)) rfl), (a_tbm (List.mem_of_getElem? (i := 150) (by decide +kernel)) rfl), ⟨by decide +kernel, by decide +kernel⟩, by decide +kernel, by decide +kernel, ⟨by decide +kernel, by decide⟩⟩
theorem im89 : Cond.instanceMethod (a_y 89) ∈ a_tb := (a_tbm (List.mem_of_getElem? (i := 971) (by decide +kernel)) rfl)
theorem sel89 : Cond.selects (a_y 89).cls (a_y 89) (a_y 89) ∈ a_tb := (a_tbm (List.mem_of_getElem? (i := 972) (by decide +kernel)) rfl)
theorem ml_RL_75m : Cond.methodLink RL 75 (a_y 89) ∈ a_tb := (a_tbm (List.mem_of_getElem? (i := 970) (by decide +kernel)) rfl)
theorem ml_RL_75 : a_ml RL 75 89 := Or.inl ml_RL_75m
theorem mw226 : a_mw 226 3 := ⟨(a_tbm (List.mem_of_getElem? (i := 1870) (by decide +kernel)) rfl), (a_tbm (List.mem_of_getElem? (i := 166) (by decide +kernel)) rfl), ⟨by decide +kernel, by decide +kernel⟩, by decide +kernel, by decide +kernel, ⟨by decide +kernel, by decide⟩⟩
theorem im226 : Cond.instanceMethod (a_y 226) ∈ a_tb := (a_tbm (List.mem_of_getElem? (i := 1868) (by decide +kernel)) rfl)
theorem sel226 : Cond.selects (a_y 226).cls (a_y 226) (a_y 226) ∈ a_tb := (a_tbm (List.mem_of_getElem? (i := 1869) (by decide +kernel)) rfl)
theorem ml_RL_78m : Cond.methodLink RL 78 (a_y 226) ∈ a_tb := (a_tbm (List.mem_of_getElem? (i := 1867) (by decide +kernel)) rfl)
theorem ml_RL_78 : a_ml RL 78 226 := Or.inl ml_RL_78m
theorem mw90 : a_mw 90 3 := ⟨(a_tbm (List.mem_of_getElem? (i := 978) (by decide +kernel)) rfl), (a_tbm (List.mem_of_getElem? (i := 150) (by decide +kernel)) rfl), ⟨by decide +kernel, by decide +kernel⟩, by decide +kernel, by decide +kernel, ⟨by decide +kernel, by decide⟩⟩
theorem im90 : Cond.instanceMethod (a_y 90) ∈ a_tb := (a_tbm (List.mem_of_getElem? (i := 976) (by decide +kernel)) rfl)
theorem sel90 : Cond.selects (a_y 90).cls (a_y 90) (a_y 90) ∈ a_tb := (a_tbm (List.mem_of_getElem? (i := 977) (by decide +kernel)) rfl)
theorem ml_RL_79m : Cond.methodLink RL 79 (a_y 90) ∈ a_tb := (a_tbm (List.mem_of_getElem? (i := 975) (by decide +kernel)) rfl)
theorem ml_RL_79 : a_ml RL 79 90 := Or.inl ml_RL_79m
theorem mw227 : a_mw 227 3 := ⟨(a_tbm (List.mem_of_getElem? (i := 1874) (by decide +kernel)) rfl), (a_tbm (List.mem_of_getElem? (i := 166) (by decide +kernel)) rfl), ⟨by decide +kernel, by decide +kernel⟩, by decide +kernel, by decide +kernel, ⟨by decide +kernel, by decide⟩⟩
theorem im227 : Cond.instanceMethod (a_y 227) ∈ a_tb := (a_tbm (List.mem_of_getElem? (i := 1872) (by decide +kernel)) rfl)
theorem sel227 : Cond.selects (a_y 227).cls (a_y 227) (a_y 227) ∈ a_tb := (a_tbm (List.mem_of_getElem? (i := 1873) (by decide +kernel)) rfl)
theorem ml_RL_82m : Cond.methodLink RL 82 (a_y 227) ∈ a_tb := (a_tbm (List.mem_of_getElem? (i := 1871) (by decide +kernel)) rfl)
theorem ml_RL_82 : a_ml RL 82 227 := Or.inl ml_RL_82m
theorem mw91 : a_mw 91 2 := ⟨(a_tbm (List.mem_of_getElem? (i := 982) (by decide +kernel)) rfl), (a_tbm (List.mem_of_getElem? (i := 150) (by decide +kernel)) rfl), ⟨by decide +kernel, by decide +kernel⟩, by decide +kernel, by decide +kernel, ⟨by decide +kernel, by decide⟩⟩
theorem im91 : Cond.instanceMethod (a_y 91) ∈ a_tb := (a_tbm (List.mem_of_getElem? (i := 980) (by decide +kernel)) rfl)
theorem sel91 : Cond.selects (a_y 91).cls (a_y 91) (a_y 91) ∈ a_tb := (a_tbm (List.mem_of_getElem? (i := 981) (by decide +kernel)) rfl)
theorem ml_RL_83m : Cond.methodLink RL 83 (a_y 91) ∈ a_tb := (a_tbm (List.mem_of_getElem? (i := 979) (by decide +kernel)) rfl)
theorem ml_RL_83 : a_ml RL 83 91 := Or.inl ml_RL_83m
theorem mw228 : a_mw 228 2 := ⟨(a_tbm (List.mem_of_getElem? (i := 1878) (by decide +kernel)) rfl), (a_tbm (List.mem_of_getElem? (i := 166) (by decide +kernel)) rfl), ⟨by decide +kernel, by decide +kernel⟩, by decide +kernel, by decide +kernel, ⟨by decide +kernel, by decide⟩⟩
theorem im228 : Cond.instanceMethod (a_y 228) ∈ a_tb := (a_tbm (List.mem_of_getElem? (i := 1876) (by decide +kernel)) rfl)
theorem sel228 : Cond.selects (a_y 228).cls (a_y 228) (a_y 228) ∈ a_tb := (a_tbm (List.mem_of_getElem? (i := 1877) (by decide +kernel)) rfl)
theorem ml_RL_86m : Cond.methodLink RL 86 (a_y 228) ∈ a_tb := (a_tbm (List.mem_of_getElem? (i := 1875) (by decide +kernel)) rfl)
theorem ml_RL_86 : a_ml RL 86 228 := Or.inl ml_RL_86m
theorem mw92 : a_mw 92 2 := ⟨(a_tbm (List.mem_of_getElem? (i := 991) (by decide +kernel)) rfl), (a_tbm (List.mem_of_getElem? (i := 150) (by decide +kernel)) rfl), ⟨by decide +kernel, by decide +kernel⟩, by decide +kernel, by decide +kernel, ⟨by decide +kernel, by decide⟩⟩
theorem im92 : Cond.instanceMethod (a_y 92) ∈ a_tb := (a_tbm (List.mem_of_getElem? (i := 989) (by decide +kernel)) rfl)
theorem sel92 : Cond.selects (a_y 92).cls (a_y 92) (a_y 92) ∈ a_tb := (a_tbm (List.mem_of_getElem? (i := 990) (by decide +kernel)) rfl)
theorem ml_RL_87m : Cond.methodLink RL 87 (a_y 92) ∈ a_tb := (a_tbm (List.mem_of_getElem? (i := 988) (by decide +kernel)) rfl)
theorem ml_RL_87 : a_ml RL 87 92 := Or.inl ml_RL_87m
theorem mw229 : a_mw 229 2 := ⟨(a_tbm (List.mem_of_getElem? (i := 1882) (by decide +kernel)) rfl), (a_tbm (List.mem_of_getElem? (i := 166) (by decide +kernel)) rfl), ⟨by decide +kernel, by decide +kernel⟩, by decide +kernel, by decide +kernel, ⟨by decide +kernel, by decide⟩⟩
theorem im229 : Cond.instanceMethod (a_y 229) ∈ a_tb := (a_tbm (List.mem_of_getElem? (i := 1880) (by decide +kernel)) rfl)
theorem sel229 : Cond.selects (a_y 229).cls (a_y 229) (a_y 229) ∈ a_tb := (a_tbm (List.mem_of_getElem? (i := 1881) (by decide +kernel)) rfl)
theorem ml_RL_90m : Cond.methodLink RL 90 (a_y 229) ∈ a_tb := (a_tbm (List.mem_of_getElem? (i := 1879) (by decide +kernel)) rfl)
theorem ml_RL_90 : a_ml RL 90 229 := Or.inl ml_RL_90m
theorem mw93 : a_mw 93 3 := ⟨(a_tbm (List.mem_of_getElem? (i := 1000) (by decide +kernel)) rfl), (a_tbm (List.mem_of_getElem? (i := 150) (by decide +kernel)) rfl), ⟨by decide +kernel, by decide +kernel⟩, by decide +kernel, by decide +kernel, ⟨by decide +kernel, by decide⟩⟩
theorem im93 : Cond.instanceMethod (a_y 93) ∈ a_tb := (a_tbm (List.mem_of_getElem? (i := 998) (by decide +kernel)) rfl)
theorem sel93 : Cond.selects (a_y 93).cls (a_y 93) (a_y 93) ∈ a_tb := (a_tbm (List.mem_of_getElem? (i := 999) (by decide +kernel)) rfl)
theorem ml_RL_91m : Cond.methodLink RL 91 (a_y 93) ∈ a_tb := (a_tbm (List.mem_of_getElem? (i := 997) (by decide +kernel)) rfl)
theorem ml_RL_91 : a_ml RL 91 93 := Or.inl ml_RL_91m
theorem mw230 : a_mw 230 3 := ⟨(a_tbm (List.mem_of_getElem? (i := 1890) (by decide +kernel)) rfl), (a_tbm (List.mem_of_getElem? (i := 166) (by decide +kernel)) rfl), ⟨by decide +kernel, by decide +kernel⟩, by decide +kernel, by decide +kernel, ⟨by decide +kernel, by decide⟩⟩
theorem im230 : Cond.instanceMethod (a_y 230) ∈ a_tb := (a_tbm (List.mem_of_getElem? (i := 1888) (by decide +kernel)) rfl)
theorem sel230 : Cond.selects (a_y 230).cls (a_y 230) (a_y 230) ∈ a_tb := (a_tbm (List.mem_of_getElem? (i := 1889) (by decide +kernel)) rfl)
theorem ml_RL_94m : Cond.methodLink RL 94 (a_y 230) ∈ a_tb := (a_tbm (List.mem_of_getElem? (i := 1887) (by decide +kernel)) rfl)
theorem ml_RL_94 : a_ml RL 94 230 := Or.inl ml_RL_94m
theorem mw94 : a_mw 94 2 := ⟨(a_tbm (List.mem_of_getElem? (i := 1004) (by decide +kernel)) rfl), (a_tbm (List.mem_of_getElem? (i := 150) (by decide +kernel)) rfl), ⟨by decide +kernel, by decide +kernel⟩, by decide +kernel, by decide +kernel, ⟨by decide +kernel, by decide⟩⟩
theorem im94 : Cond.instanceMethod (a_y 94) ∈ a_tb := (a_tbm (List.mem_of_getElem? (i := 1002) (by decide +kernel)) rfl)
theorem sel94 : Cond.selects (a_y 94).cls (a_y 94) (a_y 94) ∈ a_tb := (a_tbm (List.mem_of_getElem? (i := 1003) (by decide +kernel)) rfl)
theorem ml_RL_95m : Cond.methodLink RL 95 (a_y 94) ∈ a_tb := (a_tbm (List.mem_of_getElem? (i := 1001) (by decide +kernel)) rfl)
theorem ml_RL_95 : a_ml RL 95 94 := Or.inl ml_RL_95m
theorem mw231 : a_mw 231 2 := ⟨(a_tbm (List.mem_of_getElem? (i := 1894) (by decide +kernel)) rfl), (a_tbm (List.mem_of_getElem? (i := 166) (by decide +kernel)) rfl), ⟨by decide +kernel, by decide +kernel⟩, by decide +kernel, by decide +kernel, ⟨by decide +kernel, by decide⟩⟩
theorem im231 : Cond.instanceMethod (a_y 231) ∈ a_tb := (a_tbm (List.mem_of_getElem? (i := 1892) (by decide +kernel)) rfl)
theorem sel231 : Cond.selects (a_y 231).cls (a_y 231) (a_y 231) ∈ a_tb := (a_tbm (List.mem_of_getElem? (i := 1893) (by decide +kernel)) rfl)
theorem ml_RL_98m : Cond.methodLink RL 98 (a_y 231) ∈ a_tb := (a_tbm (List.mem_of_getElem? (i := 1891) (by decide +kernel)) rfl)
theorem ml_RL_98 : a_ml RL 98 231 := Or.inl ml_RL_98m
theorem mw95 : a_mw 95 2 := ⟨(a_tbm (List.mem_of_getElem? (i := 1008) (by decide +kernel)) rfl), (a_tbm (List.mem_of_getElem? (i := 150) (by decide +kernel)) rfl), ⟨by decide +kernel, by decide +kernel⟩, by decide +kernel, by decide +kernel, ⟨by decide +kernel, by decide⟩⟩
theorem im95 : Cond.instanceMethod (a_y 95) ∈ a_tb := (a_tbm (List.mem_of_getElem? (i := 1006) (by decide +kernel)) rfl)
theorem sel95 : Cond.selects (a_y 95).cls (a_y 95) (a_y 95) ∈ a_tb := (a_tbm (List.mem_of_getElem? (i := 1007) (by decide +kernel)) rfl)
theorem ml_RL_99m : Cond.methodLink RL 99 (a_y 95) ∈ a_tb := (a_tbm (List.mem_of_getElem? (i := 1005) (by decide +kernel)) rfl)
theorem ml_RL_99 : a_ml RL 99 95 := Or.inl ml_RL_99m
theorem mw233 : a_mw 233 2 := ⟨(a_tbm (List.mem_of_getElem? (i := 1898) (by decide +kernel)) rfl), (a_tbm (List.mem_of_getElem? (i := 166) (by decide +kernel)) rfl), ⟨by decide +kernel, by decide +kernel⟩, by decide +kernel, by decide +kernel, ⟨by decide +kernel, by decide⟩⟩
theorem im233 : Cond.instanceMethod (a_y 233) ∈ a_tb := (a_tbm (List.mem_of_getElem? (i := 1896) (by decide +kernel)) rfl)
theorem sel233 : Cond.selects (a_y 233).cls (a_y 233) (a_y 233) ∈ a_tb := (a_tbm (List.mem_of_getElem? (i := 1897) (by decide +kernel)) rfl)
theorem ml_RL_102m : Cond.methodLink RL 102 (a_y 233) ∈ a_tb := (a_tbm (List.mem_of_getElem? (i := 1895) (by decide +kernel)) rfl)
theorem ml_RL_102 : a_ml RL 102 233 := Or.inl ml_RL_102m
theorem mw96 : a_mw 96 2 := ⟨(a_tbm (List.mem_of_getElem? (i := 1016) (by decide +kernel)) rfl), (a_tbm (List.mem_of_getElem? (i := 150) (by decide +kernel)) rfl), ⟨by decide +kernel, by decide +kernel⟩, by decide +kernel, by decide +kernel, ⟨by decide +kernel, by decide⟩⟩
theorem im96 : Cond.instanceMethod (a_y 96) ∈ a_tb := (a_tbm (List.mem_of_getElem? (i := 1014) (by decide +kernel)) rfl)
theorem sel96 : Cond.selects (a_y 96).cls (a_y 96) (a_y 96) ∈ a_tb := (a_tbm (List.mem_of_getElem? (i := 1015) (by decide +kernel)) rfl)
theorem ml_RL_103m : Cond.methodLink RL 103 (a_y 96) ∈ a_tb := (a_tbm (List.mem_of_getElem? (i := 1013) (by decide +kernel)) rfl)
theorem ml_RL_103 : a_ml RL 103 96 := Or.inl ml_RL_103m
theorem mw234 : a_mw 234 2 := ⟨(a_tbm (List.mem_of_getElem? (i := 1906) (by decide +kernel)) rfl), (a_tbm (List.mem_of_getElem? (i := 166) (by decide +kernel)) rfl), ⟨by decide +kernel, by decide +kernel⟩, by decide +kernel, by decide +kernel, ⟨by decide +kernel, by decide⟩⟩
theorem im234 : Cond.instanceMethod (a_y 234) ∈ a_tb := (a_tbm (List.mem_of_getElem? (i := 1904) (by decide +kernel)) rfl)
theorem sel234 : Cond.selects (a_y 234).cls (a_y 234) (a_y 234) ∈ a_tb := (a_tbm (List.mem_of_getElem? (i := 1905) (by decide +kernel)) rfl)
theorem ml_RL_106m : Cond.methodLink RL 106 (a_y 234) ∈ a_tb := (a_tbm (List.mem_of_getElem? (i := 1903) (by decide +kernel)) rfl)
theorem ml_RL_106 : a_ml RL 106 234 := Or.inl ml_RL_106m
theorem mw98 : a_mw 98 3 := ⟨(a_tbm (List.mem_of_getElem? (i := 1020) (by decide +kernel)) rfl), (a_tbm (List.mem_of_getElem? (i := 150) (by decide +kernel)) rfl), ⟨by decide +kernel, by decide +kernel⟩, by decide +kernel, by decide +kernel, ⟨by decide +kernel, by decide⟩⟩
theorem im98 : Cond.instanceMethod (a_y 98) ∈ a_tb := (a_tbm (List.mem_of_getElem? (i := 1018) (by decide +kernel)) rfl)
theorem sel98 : Cond.selects (a_y 98).cls (a_y 98) (a_y 98) ∈ a_tb := (a_tbm (List.mem_of_getElem? (i := 1019) (by decide +kernel)) rfl)
theorem ml_RL_107m : Cond.methodLink RL 107 (a_y 98) ∈ a_tb := (a_tbm (List.mem_of_getElem? (i := 1017) (by decide +kernel)) rfl)
theorem ml_RL_107 : a_ml RL 107 98 := Or.inl ml_RL_107m
theorem mw237 : a_mw 237 3 := ⟨(a_tbm (List.mem_of_getElem? (i := 1910) (by decide +kernel)) rfl), (a_tbm (List.mem_of_getElem? (i := 166) (by decide +kernel)) rfl), ⟨by decide +kernel, by decide +kernel⟩, by decide +kernel, by decide +kernel, ⟨by decide +kernel, by decide⟩⟩
theorem im237 : Cond.instanceMethod (a_y 237) ∈ a_tb := (a_tbm (List.mem_of_getElem? (i := 1908) (by decide +kernel)) rfl)
theorem sel237 : Cond.selects (a_y 237).cls (a_y 237) (a_y 237) ∈ a_tb := (a_tbm (List.mem_of_getElem? (i := 1909) (by decide +kernel)) rfl)
theorem ml_RL_110m : Cond.methodLink RL 110 (a_y 237) ∈ a_tb := (a_tbm (List.mem_of_getElem? (i := 1907) (by decide +kernel)) rfl)
theorem ml_RL_110 : a_ml RL 110 237 := Or.inl ml_RL_110m
theorem mw99 : a_mw 99 3 := ⟨(a_tbm (List.mem_of_getElem? (i := 1031) (by decide +kernel)) rfl), (a_tbm (List.mem_of_getElem? (i := 150) (by decide +kernel)) rfl), ⟨by decide +kernel, by decide +kernel⟩, by decide +kernel, by decide +kernel, ⟨by decide +kernel, by decide⟩⟩
theorem im99 : Cond.instanceMethod (a_y 99) ∈ a_tb := (a_tbm (List.mem_of_getElem? (i := 1029) (by decide +kernel)) rfl)
theorem sel99 : Cond.selects (a_y 99).cls (a_y 99) (a_y 99) ∈ a_tb := (a_tbm (List.mem_of_getElem? (i := 1030) (by decide +kernel)) rfl)
theorem ml_RL_111m : Cond.methodLink RL 111 (a_y 99) ∈ a_tb := (a_tbm (List.mem_of_getElem? (i := 1028) (by decide +kernel)) rfl)
theorem ml_RL_111 : a_ml RL 111 99 := Or.inl ml_RL_111m
theorem mw238 : a_mw 238 3 := ⟨(a_tbm (List.mem_of_getElem? (i := 1925) (by decide +kernel)) rfl), (a_tbm (List.mem_of_getElem? (i := 166) (by decide +kernel)) rfl), ⟨by decide +kernel, by decide +kernel⟩, by decide +kernel, by decide +kernel, ⟨by decide +kernel, by decide⟩⟩
theorem im238 : Cond.instanceMethod (a_y 238) ∈ a_tb := (a_tbm (List.mem_of_getElem? (i := 1923) (by decide +kernel)) rfl)
theorem sel238 : Cond.selects (a_y 238).cls (a_y 238) (a_y 238) ∈ a_tb := (a_tbm (List.mem_of_getElem? (i := 1924) (by decide +kernel)) rfl)
theorem ml_RL_114m : Cond.methodLink RL 114 (a_y 238) ∈ a_tb := (a_tbm (List.mem_of_getElem? (i := 1922) (by decide +kernel)) rfl)
theorem ml_RL_114 : a_ml RL 114 238 := Or.inl ml_RL_114m
theorem mw102 : a_mw 102 3 := ⟨(a_tbm (List.mem_of_getElem? (i := 1035) (by decide +kernel)) rfl), (a_tbm (List.mem_of_getElem? (i := 150) (by decide +kernel)) rfl), ⟨by decide +kernel, by decide +kernel⟩, by decide +kernel, by decide +kernel, ⟨by decide +kernel, by decide⟩⟩
theorem im102 : Cond.instanceMethod (a_y 102) ∈ a_tb := (a_tbm (List.mem_of_getElem? (i := 1033) (by decide +kernel)) rfl)
theorem sel102 : Cond.selects (a_y 102).cls (a_y 102) (a_y 102) ∈ a_tb := (a_tbm (List.mem_of_getElem? (i := 1034) (by decide +kernel)) rfl)
theorem ml_RL_115m : Cond.methodLink RL 115 (a_y 102) ∈ a_tb := (a_tbm (List.mem_of_getElem? (i := 1032) (by decide +kernel)) rfl)
theorem ml_RL_115 : a_ml RL 115 102 := Or.inl ml_RL_115m
theorem mw240 : a_mw 240 3 := ⟨(a_tbm (List.mem_of_getElem? (i := 1929) (by decide +kernel)) rfl), (a_tbm (List.mem_of_getElem? (i := 166) (by decide +kernel)) rfl), ⟨by decide +kernel, by decide +kernel⟩, by decide +kernel, by decide +kernel, ⟨by decide +kernel, by decide⟩⟩
theorem im240 : Cond.instanceMethod (a_y 240) ∈ a_tb := (a_tbm (List.mem_of_getElem? (i := 1927) (by decide +kernel)) rfl)
theorem sel240 : Cond.selects (a_y 240).cls (a_y 240) (a_y 240) ∈ a_tb := (a_tbm (List.mem_of_getElem? (i := 1928) (by decide +kernel)) rfl)
theorem ml_RL_118m : Cond.methodLink RL 118 (a_y 240) ∈ a_tb := (a_tbm (List.mem_of_getElem? (i := 1926) (by decide +kernel)) rfl)
theorem ml_RL_118 : a_ml RL 118 240 := Or.inl ml_RL_118m
theorem mw103 : a_mw 103 3 := ⟨(a_tbm (List.mem_of_getElem? (i := 1044) (by decide +kernel)) rfl), (a_tbm (List.mem_of_getElem? (i := 150) (by decide +kernel)) rfl), ⟨by decide +kernel, by decide +kernel⟩, by decide +kernel, by decide +kernel, ⟨by decide +kernel, by decide⟩⟩
theorem im103 : Cond.instanceMethod (a_y 103) ∈ a_tb := (a_tbm (List.mem_of_getElem? (i := 1042) (by decide +kernel)) rfl)
theorem sel103 : Cond.selects (a_y 103).cls (a_y 103) (a_y 103) ∈ a_tb := (a_tbm (List.mem_of_getElem? (i := 1043) (by decide +kernel)) rfl)
theorem ml_RL_119m : Cond.methodLink RL 119 (a_y 103) ∈ a_tb := (a_tbm (List.mem_of_getElem? (i := 1041) (by decide +kernel)) rfl)
theorem ml_RL_119 : a_ml RL 119 103 := Or.inl ml_RL_119m
theorem mw241 : a_mw 241 3 := ⟨(a_tbm (List.mem_of_getElem? (i := 1937) (by decide +kernel)) rfl), (a_tbm (List.mem_of_getElem? (i := 166) (by decide +kernel)) rfl), ⟨by decide +kernel, by decide +kernel⟩, by decide +kernel, by decide +kernel, ⟨by decide +kernel, by decide⟩⟩
theorem im241 : Cond.instanceMethod (a_y 241) ∈ a_tb := (a_tbm (List.mem_of_getElem? (i := 1935) (by decide +kernel)) rfl)
theorem sel241 : Cond.selects (a_y 241).cls (a_y 241) (a_y 241) ∈ a_tb := (a_tbm (List.mem_of_getElem? (i := 1936) (by decide +kernel)) rfl)
theorem ml_RL_122m : Cond.methodLink RL 122 (a_y 241) ∈ a_tb := (a_tbm (List.mem_of_getElem? (i := 1934) (by decide +kernel)) rfl)
theorem ml_RL_122 : a_ml RL 122 241 := Or.inl ml_RL_122m
theorem mw105 : a_mw 105 3 := ⟨(a_tbm (List.mem_of_getElem? (i := 1048) (by decide +kernel)) rfl), (a_tbm (List.mem_of_getElem? (i := 150) (by decide +kernel)) rfl), ⟨by decide +kernel, by decide +kernel⟩, by decide +kernel, by decide +kernel, ⟨by decide +kernel, by decide⟩⟩
theorem im105 : Cond.instanceMethod (a_y 105) ∈ a_tb := (a_tbm (List.mem_of_getElem? (i := 1046) (by decide +kernel)) rfl)
theorem sel105 : Cond.selects (a_y 105).cls (a_y 105) (a_y 105) ∈ a_tb := (a_tbm (List.mem_of_getElem? (i := 1047) (by decide +kernel)) rfl)
theorem ml_RL_123m : Cond.methodLink RL 123 (a_y 105) ∈ a_tb := (a_tbm (List.mem_of_getElem? (i := 1045) (by decide +kernel)) rfl)
theorem ml_RL_123 : a_ml RL 123 105 := Or.inl ml_RL_123m
theorem mw242 : a_mw 242 3 := ⟨(a_tbm (List.mem_of_getElem? (i := 1941) (by decide +kernel)) rfl), (a_tbm (List.mem_of_getElem? (i := 166) (by decide +kernel)) rfl), ⟨by decide +kernel, by decide +kernel⟩, by decide +kernel, by decide +kernel, ⟨by decide +kernel, by decide⟩⟩
theorem im242 : Cond.instanceMethod (a_y 242) ∈ a_tb := (a_tbm (List.mem_of_getElem? (i := 1939) (by decide +kernel)) rfl)
theorem sel242 : Cond.selects (a_y 242).cls (a_y 242) (a_y 242) ∈ a_tb := (a_tbm (List.mem_of_getElem? (i := 1940) (by decide +kernel)) rfl)
theorem ml_RL_126m : Cond.methodLink RL 126 (a_y 242) ∈ a_tb := (a_tbm (List.mem_of_getElem? (i := 1938) (by decide +kernel)) rfl)
theorem ml_RL_126 : a_ml RL 126 242 := Or.inl ml_RL_126m
theorem mw106 : a_mw 106 1 := ⟨(a_tbm (List.mem_of_getElem? (i := 1052) (by decide +kernel)) rfl), (a_tbm (List.mem_of_getElem? (i := 150) (by decide +kernel)) rfl), ⟨by decide +kernel, by decide +kernel⟩, by decide +kernel, by decide +kernel, ⟨by decide +kernel, by decide⟩⟩
theorem im106 : Cond.instanceMethod (a_y 106) ∈ a_tb := (a_tbm (List.mem_of_getElem? (i := 1050) (by decide +kernel)) rfl)
theorem sel106 : Cond.selects (a_y 106).cls (a_y 106) (a_y 106) ∈ a_tb := (a_tbm (List.mem_of_getElem? (i := 1051) (by decide +kernel)) rfl)
theorem ml_RL_127m : Cond.methodLink RL 127 (a_y 106) ∈ a_tb := (a_tbm (List.mem_of_getElem? (i := 1049) (by decide +kernel)) rfl)
theorem ml_RL_127 : a_ml RL 127 106 := Or.inl ml_RL_127m
theorem mw244 : a_mw 244 1 := ⟨(a_tbm (List.mem_of_getElem? (i := 1945) (by decide +kernel)) rfl), (a_tbm (List.mem_of_getElem? (i := 166) (by decide +kernel)) rfl), ⟨by decide +kernel, by decide +kernel⟩, by decide +kernel, by decide +kernel, ⟨by decide +kernel, by decide⟩⟩
theorem im244 : Cond.instanceMethod (a_y 244) ∈ a_tb := (a_tbm (List.mem_of_getElem? (i := 1943) (by decide +kernel)) rfl)
theorem sel244 : Cond.selects (a_y 244).cls (a_y 244) (a_y 244) ∈ a_tb := (a_tbm (List.mem_of_getElem? (i := 1944) (by decide +kernel)) rfl)
theorem ml_RL_130m : Cond.methodLink RL 130 (a_y 244) ∈ a_tb := (a_tbm (List.mem_of_getElem? (i := 1942) (by decide +kernel)) rfl)
theorem ml_RL_130 : a_ml RL 130 244 := Or.inl ml_RL_130m
theorem mw107 : a_mw 107 1 := ⟨(a_tbm (List.mem_of_getElem? (i := 1064) (by decide +kernel)) rfl), (a_tbm (List.mem_of_getElem? (i := 150) (by decide +kernel)) rfl), ⟨by decide +kernel, by decide +kernel⟩, by decide +kernel, by decide +kernel, ⟨by decide +kernel, by decide⟩⟩
theorem im107 : Cond.instanceMethod (a_y 107) ∈ a_tb := (a_tbm (List.mem_of_getElem? (i := 1062) (by decide +kernel)) rfl)
theorem sel107 : Cond.selects (a_y 107).cls (a_y 107) (a_y 107) ∈ a_tb := (a_tbm (List.mem_of_getElem? (i := 1063) (by decide +kernel)) rfl)
theorem ml_RL_131m : Cond.methodLink RL 131 (a_y 107) ∈ a_tb := (a_tbm (List.mem_of_getElem? (i := 1061) (by decide +kernel)) rfl)
theorem ml_RL_131 : a_ml RL 131 107 := Or.inl ml_RL_131m
theorem mw245 : a_mw 245 1 := ⟨(a_tbm (List.mem_of_getElem? (i := 1953) (by decide +kernel)) rfl), (a_tbm (List.mem_of_getElem? (i := 166) (by decide +kernel)) rfl), ⟨by decide +kernel, by decide +kernel⟩, by decide +kernel, by decide +kernel, ⟨by decide +kernel, by decide⟩⟩
theorem im245 : Cond.instanceMethod (a_y 245) ∈ a_tb := (a_tbm (List.mem_of_getElem? (i := 1951) (by decide +kernel)) rfl)
theorem sel245 : Cond.selects (a_y 245).cls (a_y 245) (a_y 245) ∈ a_tb := (a_tbm (List.mem_of_getElem? (i := 1952) (by decide +kernel)) rfl)
theorem ml_RL_134m : Cond.methodLink RL 134 (a_y 245) ∈ a_tb := (a_tbm (List.mem_of_getElem? (i := 1950) (by decide +kernel)) rfl)
theorem ml_RL_134 : a_ml RL 134 245 := Or.inl ml_RL_134m
theorem mw110 : a_mw 110 2 := ⟨(a_tbm (List.mem_of_getElem? (i := 1068) (by decide +kernel)) rfl), (a_tbm (List.mem_of_getElem? (i := 150) (by decide +kernel)) rfl), ⟨by decide +kernel, by decide +kernel⟩, by decide +kernel, by decide +kernel, ⟨by decide +kernel, by decide⟩⟩
theorem im110 : Cond.instanceMethod (a_y 110) ∈ a_tb := (a_tbm (List.mem_of_getElem? (i := 1066) (by decide +kernel)) rfl)
theorem sel110 : Cond.selects (a_y 110).cls (a_y 110) (a_y 110) ∈ a_tb := (a_tbm (List.mem_of_getElem? (i := 1067) (by decide +kernel)) rfl)
theorem ml_RL_135m : Cond.methodLink RL 135 (a_y 110) ∈ a_tb := (a_tbm (List.mem_of_getElem? (i := 1065) (by decide +kernel)) rfl)
theorem ml_RL_135 : a_ml RL 135 110 := Or.inl ml_RL_135m
theorem mw247 : a_mw 247 2 := ⟨(a_tbm (List.mem_of_getElem? (i := 1961) (by decide +kernel)) rfl), (a_tbm (List.mem_of_getElem? (i := 166) (by decide +kernel)) rfl), ⟨by decide +kernel, by decide +kernel⟩, by decide +kernel, by decide +kernel, ⟨by decide +kernel, by decide⟩⟩
theorem im247 : Cond.instanceMethod (a_y 247) ∈ a_tb := (a_tbm (List.mem_of_getElem? (i := 1959) (by decide +kernel)) rfl)
theorem sel247 : Cond.selects (a_y 247).cls (a_y 247) (a_y 247) ∈ a_tb := (a_tbm (List.mem_of_getElem? (i := 1960) (by decide +kernel)) rfl)
theorem ml_RL_138m : Cond.methodLink RL 138 (a_y 247) ∈ a_tb := (a_tbm (List.mem_of_getElem? (i := 1958) (by decide +kernel)) rfl)
theorem ml_RL_138 : a_ml RL 138 247 := Or.inl ml_RL_138m
theorem mw111 : a_mw 111 0 := ⟨(a_tbm (List.mem_of_getElem? (i := 1076) (by decide +kernel)) rfl), (a_tbm (List.mem_of_getElem? (i := 150) (by decide +kernel)) rfl), ⟨by decide +kernel, by decide +kernel⟩, by decide +kernel, by decide +kernel, ⟨by decide +kernel, by decide⟩⟩
theorem im111 : Cond.instanceMethod (a_y 111) ∈ a_tb := (a_tbm (List.mem_of_getElem? (i := 1074) (by decide +kernel)) rfl)
theorem sel111 : Cond.selects (a_y 111).cls (a_y 111) (a_y 111) ∈ a_tb := (a_tbm (List.mem_of_getElem? (i := 1075) (by decide +kernel)) rfl)
theorem ml_RL_139m : Cond.methodLink RL 139 (a_y 111) ∈ a_tb := (a_tbm (List.mem_of_getElem? (i := 1073) (by decide +kernel)) rfl)
theorem ml_RL_139 : a_ml RL 139 111 := Or.inl ml_RL_139m
theorem mw248 : a_mw 248 0 := ⟨(a_tbm (List.mem_of_getElem? (i := 1969) (by decide +kernel)) rfl), (a_tbm (List.mem_of_getElem? (i := 166) (by decide +kernel)) rfl), ⟨by decide +kernel, by decide +kernel⟩, by decide +kernel, by decide +kernel, ⟨by decide +kernel, by decide⟩⟩
theorem im248 : Cond.instanceMethod (a_y 248) ∈ a_tb := (a_tbm (List.mem_of_getElem? (i := 1967) (by decide +kernel)) rfl)
theorem sel248 : Cond.selects (a_y 248).cls (a_y 248) (a_y 248) ∈ a_tb := (a_tbm (List.mem_of_getElem? (i := 1968) (by decide +kernel)) rfl)
theorem ml_RL_142m : Cond.methodLink RL 142 (a_y 248) ∈ a_tb := (a_tbm (List.mem_of_getElem? (i := 1966) (by decide +kernel)) rfl)
theorem ml_RL_142 : a_ml RL 142 248 := Or.inl ml_RL_142m
theorem mw112 : a_mw 112 1 := ⟨(a_tbm (List.mem_of_getElem? (i := 1084) (by decide +kernel)) rfl), (a_tbm (List.mem_of_getElem? (i := 150) (by decide +kernel)) rfl), ⟨by decide +kernel, by decide +kernel⟩, by decide +kernel, by decide +kernel, ⟨by decide +kernel, by decide⟩⟩
theorem im112 : Cond.instanceMethod (a_y 112) ∈ a_tb := (a_tbm (List.mem_of_getElem? (i := 1082) (by decide +kernel)) rfl)
theorem sel112 : Cond.selects (a_y 112).cls (a_y 112) (a_y 112) ∈ a_tb := (a_tbm (List.mem_of_getElem? (i := 1083) (by decide +kernel)) rfl)
theorem ml_RL_143m : Cond.methodLink RL 143 (a_y 112) ∈ a_tb := (a_tbm (List.mem_of_getElem? (i := 1081) (by decide +kernel)) rfl)
theorem ml_RL_143 : a_ml RL 143 112 := Or.inl ml_RL_143m
theorem mw250 : a_mw 250 1 := ⟨(a_tbm (List.mem_of_getElem? (i := 1973) (by decide +kernel)) rfl), (a_tbm (List.mem_of_getElem? (i := 166) (by decide +kernel)) rfl), ⟨by decide +kernel, by decide +kernel⟩, by decide +kernel, by decide +kernel, ⟨by decide +kernel, by decide⟩⟩
theorem im250 : Cond.instanceMethod (a_y 250) ∈ a_tb := (a_tbm (List.mem_of_getElem? (i := 1971) (by decide +kernel)) rfl)
theorem sel250 : Cond.selects (a_y 250).cls (a_y 250) (a_y 250) ∈ a_tb := (a_tbm (List.mem_of_getElem? (i := 1972) (by decide +kernel)) rfl)
theorem ml_RL_146m : Cond.methodLink RL 146 (a_y 250) ∈ a_tb := (a_tbm (List.mem_of_getElem? (i := 1970) (by decide +kernel)) rfl)
theorem ml_RL_146 : a_ml RL 146 250 := Or.inl ml_RL_146m
theorem mw114 : a_mw 114 1 := ⟨(a_tbm (List.mem_of_getElem? (i := 1093) (by decide +kernel)) rfl), (a_tbm (List.mem_of_getElem? (i := 150) (by decide +kernel)) rfl), ⟨by decide +kernel, by decide +kernel⟩, by decide +kernel, by decide +kernel, ⟨by decide +kernel, by decide⟩⟩
theorem im114 : Cond.instanceMethod (a_y 114) ∈ a_tb := (a_tbm (List.mem_of_getElem? (i := 1091) (by decide +kernel)) rfl)
theorem sel114 : Cond.selects (a_y 114).cls (a_y 114) (a_y 114) ∈ a_tb := (a_tbm (List.mem_of_getElem? (i := 1092) (by decide +kernel)) rfl)
theorem ml_RL_147m : Cond.methodLink RL 147 (a_y 114) ∈ a_tb := (a_tbm (List.mem_of_getElem? (i := 1090) (by decide +kernel)) rfl)
theorem ml_RL_147 : a_ml RL 147 114 := Or.inl ml_RL_147m
theorem mw254 : a_mw 254 1 := ⟨(a_tbm (List.mem_of_getElem? (i := 1981) (by decide +kernel)) rfl), (a_tbm (List.mem_of_getElem? (i := 166) (by decide +kernel)) rfl), ⟨by decide +kernel, by decide +kernel⟩, by decide +kernel, by decide +kernel, ⟨by decide +kernel, by decide⟩⟩
theorem im254 : Cond.instanceMethod (a_y 254) ∈ a_tb := (a_tbm (List.mem_of_getElem? (i := 1979) (by decide +kernel)) rfl)
theorem sel254 : Cond.selects (a_y 254).cls (a_y 254) (a_y 254) ∈ a_tb := (a_tbm (List.mem_of_getElem? (i := 1980) (by decide +kernel)) rfl)
theorem ml_RL_150m : Cond.methodLink RL 150 (a_y 254) ∈ a_tb := (a_tbm (List.mem_of_getElem? (i := 1978) (by decide +kernel)) rfl)
theorem ml_RL_150 : a_ml RL 150 254 := Or.inl ml_RL_150m
theorem mw115 : a_mw 115 0 := ⟨(a_tbm (List.mem_of_getElem? (i := 1123) (by decide +kernel)) rfl), (a_tbm (List.mem_of_getElem? (i := 150) (by decide +kernel)) rfl), ⟨by decide +kernel, by decide +kernel⟩, by decide +kernel, by decide +kernel, ⟨by decide +kernel, by decide⟩⟩
theorem im115 : Cond.instanceMethod (a_y 115) ∈ a_tb := (a_tbm (List.mem_of_getElem? (i := 1121) (by decide +kernel)) rfl)
theorem sel115 : Cond.selects (a_y 115).cls (a_y 115) (a_y 115) ∈ a_tb := (a_tbm (List.mem_of_getElem? (i := 1122) (by decide +kernel)) rfl)
theorem ml_RL_151m : Cond.methodLink RL 151 (a_y 115) ∈ a_tb := (a_tbm (List.mem_of_getElem? (i := 1120) (by decide +kernel)) rfl)
theorem ml_RL_151 : a_ml RL 151 115 := Or.inl ml_RL_151m
theorem mw255 : a_mw 255 0 := ⟨(a_tbm (List.mem_of_getElem? (i := 2004) (by decide +kernel)) rfl), (a_tbm (List.mem_of_getElem? (i := 166) (by decide +kernel)) rfl), ⟨by decide +kernel, by decide +kernel⟩, by decide +kernel, by decide +kernel, ⟨by decide +kernel, by decide⟩⟩
theorem im255 : Cond.instanceMethod (a_y 255) ∈ a_tb := (a_tbm (List.mem_of_getElem? (i := 2002) (by decide +kernel)) rfl)
theorem sel255 : Cond.selects (a_y 255).cls (a_y 255) (a_y 255) ∈ a_tb := (a_tbm (List.mem_of_getElem? (i := 2003) (by decide +kernel)) rfl)
theorem ml_RL_154m : Cond.methodLink RL 154 (a_y 255) ∈ a_tb := (a_tbm (List.mem_of_getElem? (i := 2001) (by decide +kernel)) rfl)
theorem ml_RL_154 : a_ml RL 154 255 := Or.inl ml_RL_154m
theorem mw116 : a_mw 116 1 := ⟨(a_tbm (List.mem_of_getElem? (i := 1128) (by decide +kernel)) rfl), (a_tbm (List.mem_of_getElem? (i := 150) (by decide +kernel)) rfl), ⟨by decide +kernel, by decide +kernel⟩, by decide +kernel, by decide +kernel, ⟨by decide +kernel, by decide⟩⟩
theorem im116 : Cond.instanceMethod (a_y 116) ∈ a_tb := (a_tbm (List.mem_of_getElem? (i := 1126) (by decide +kernel)) rfl)
theorem sel116 : Cond.selects (a_y 116).cls (a_y 116) (a_y 116) ∈ a_tb := (a_tbm (List.mem_of_getElem? (i := 1127) (by decide +kernel)) rfl)
theorem ml_RL_155m : Cond.methodLink RL 155 (a_y 116) ∈ a_tb := (a_tbm (List.mem_of_getElem? (i := 1125) (by decide +kernel)) rfl)
theorem ml_RL_155 : a_ml RL 155 116 := Or.inl ml_RL_155m
theorem mw256 : a_mw 256 1 := ⟨(a_tbm (List.mem_of_getElem? (i := 2008) (by decide +kernel)) rfl), (a_tbm (List.mem_of_getElem? (i := 166) (by decide +kernel)) rfl), ⟨by decide +kernel, by decide +kernel⟩, by decide +kernel, by decide +kernel, ⟨by decide +kernel, by decide⟩⟩
theorem im256 : Cond.instanceMethod (a_y 256) ∈ a_tb := (a_tbm (List.mem_of_getElem? (i := 2006) (by decide +kernel)) rfl)
theorem sel256 : Cond.selects (a_y 256).cls (a_y 256) (a_y 256) ∈ a_tb := (a_tbm (List.mem_of_getElem? (i := 2007) (by decide +kernel)) rfl)
theorem ml_RL_159m : Cond.methodLink RL 159 (a_y 256) ∈ a_tb := (a_tbm (List.mem_of_getElem? (i := 2005) (by decide +kernel)) rfl)
theorem ml_RL_159 : a_ml RL 159 256 := Or.inl ml_RL_159m
theorem mw117 : a_mw 117 0 := ⟨(a_tbm (List.mem_of_getElem? (i := 1132) (by decide +kernel)) rfl), (a_tbm (List.mem_of_getElem? (i := 150) (by decide +kernel)) rfl), ⟨by decide +kernel, by decide +kernel⟩, by decide +kernel, by decide +kernel, ⟨by decide +kernel, by decide⟩⟩
theorem im117 : Cond.instanceMethod (a_y 117) ∈ a_tb := (a_tbm (List.mem_of_getElem? (i := 1130) (by decide +kernel)) rfl)
theorem sel117 : Cond.selects (a_y 117).cls (a_y 117) (a_y 117) ∈ a_tb := (a_tbm (List.mem_of_getElem? (i := 1131) (by decide +kernel)) rfl)
theorem ml_RL_160m : Cond.methodLink RL 160 (a_y 117) ∈ a_tb := (a_tbm (List.mem_of_getElem? (i := 1129) (by decide +kernel)) rfl)
theorem ml_RL_160 : a_ml RL 160 117 := Or.inl ml_RL_160m
theorem mw260 : a_mw 260 0 := ⟨(a_tbm (List.mem_of_getElem? (i := 2012) (by decide +kernel)) rfl), (a_tbm (List.mem_of_getElem? (i := 166) (by decide +kernel)) rfl), ⟨by decide +kernel, by decide +kernel⟩, by decide +kernel, by decide +kernel, ⟨by decide +kernel, by decide⟩⟩
theorem im260 : Cond.instanceMethod (a_y 260) ∈ a_tb := (a_tbm (List.mem_of_getElem? (i := 2010) (by decide +kernel)) rfl)
theorem sel260 : Cond.selects (a_y 260).cls (a_y 260) (a_y 260) ∈ a_tb := (a_tbm (List.mem_of_getElem? (i := 2011) (by decide +kernel)) rfl)
theorem ml_RL_163m : Cond.methodLink RL 163 (a_y 260) ∈ a_tb := (a_tbm (List.mem_of_getElem? (i := 2009) (by decide +kernel)) rfl)
theorem ml_RL_163 : a_ml RL 163 260 := Or.inl ml_RL_163m
theorem mw118 : a_mw 118 1 := ⟨(a_tbm (List.mem_of_getElem? (i := 1155) (by decide +kernel)) rfl), (a_tbm (List.mem_of_getElem? (i := 150) (by decide +kernel)) rfl), ⟨by decide +kernel, by decide +kernel⟩, by decide +kernel, by decide +kernel, ⟨by decide +kernel, by decide⟩⟩
theorem im118 : Cond.instanceMethod (a_y 118) ∈ a_tb := (a_tbm (List.mem_of_getElem? (i := 1153) (by decide +kernel)) rfl)
theorem sel118 : Cond.selects (a_y 118).cls (a_y 118) (a_y 118) ∈ a_tb := (a_tbm (List.mem_of_getElem? (i := 1154) (by decide +kernel)) rfl)
theorem ml_RL_164m : Cond.methodLink RL 164 (a_y 118) ∈ a_tb := (a_tbm (List.mem_of_getElem? (i := 1152) (by decide +kernel)) rfl)
theorem ml_RL_164 : a_ml RL 164 118 := Or.inl ml_RL_164m
theorem mw262 : a_mw 262 1 := ⟨(a_tbm (List.mem_of_getElem? (i := 2028) (by decide +kernel)) rfl), (a_tbm (List.mem_of_getElem? (i := 166) (by decide +kernel)) rfl), ⟨by decide +kernel, by decide +kernel⟩, by decide +kernel, by decide +kernel, ⟨by decide +kernel, by decide⟩⟩
theorem im262 : Cond.instanceMethod (a_y 262) ∈ a_tb := (a_tbm (List.mem_of_getElem? (i := 2026) (by decide +kernel)) rfl)
theorem sel262 : Cond.selects (a_y 262).cls (a_y 262) (a_y 262) ∈ a_tb := (a_tbm (List.mem_of_getElem? (i := 2027) (by decide +kernel)) rfl)
theorem ml_RL_167m : Cond.methodLink RL 167 (a_y 262) ∈ a_tb := (a_tbm (List.mem_of_getElem? (i := 2025) (by decide +kernel)) rfl)
theorem ml_RL_167 : a_ml RL 167 262 := Or.inl ml_RL_167m
theorem mw119 : a_mw 119 1 := ⟨(a_tbm (List.mem_of_getElem? (i := 1167) (by decide +kernel)) rfl), (a_tbm (List.mem_of_getElem? (i := 150) (by decide +kernel)) rfl), ⟨by decide +kernel, by decide +kernel⟩, by decide +kernel, by decide +kernel, ⟨by decide +kernel, by decide⟩⟩
theorem im119 : Cond.instanceMethod (a_y 119) ∈ a_tb := (a_tbm (List.mem_of_getElem? (i := 1165) (by decide +kernel)) rfl)
theorem sel119 : Cond.selects (a_y 119).cls (a_y 119) (a_y 119) ∈ a_tb := (a_tbm (List.mem_of_getElem? (i := 1166) (by decide +kernel)) rfl)
theorem ml_RL_168m : Cond.methodLink RL 168 (a_y 119) ∈ a_tb := (a_tbm (List.mem_of_getElem? (i := 1164) (by decide +kernel)) rfl)
theorem ml_RL_168 : a_ml RL 168 119 := Or.inl ml_RL_168m
theorem mw263 : a_mw 263 1 := ⟨(a_tbm (List.mem_of_getElem? (i := 2036) (by decide +kernel)) rfl), (a_tbm (List.mem_of_getElem? (i := 166) (by decide +kernel)) rfl), ⟨by decide +kernel, by decide +kernel⟩, by decide +kernel, by decide +kernel, ⟨by decide +kernel, by decide⟩⟩
theorem im263 : Cond.instanceMethod (a_y 263) ∈ a_tb := (a_tbm (List.mem_of_getElem? (i := 2034) (by decide +kernel)) rfl)
theorem sel263 : Cond.selects (a_y 263).cls (a_y 263) (a_y 263) ∈ a_tb := (a_tbm (List.mem_of_getElem? (i := 2035) (by decide +kernel)) rfl)
theorem ml_RL_171m : Cond.methodLink RL 171 (a_y 263) ∈ a_tb := (a_tbm (List.mem_of_getElem? (i := 2033) (by decide +kernel)) rfl)
theorem ml_RL_171 : a_ml RL 171 263 := Or.inl ml_RL_171m
theorem mw120 : a_mw 120 3 := ⟨(a_tbm (List.mem_of_getElem? (i := 1171) (by decide +kernel)) rfl), (a_tbm (List.mem_of_getElem? (i := 150) (by decide +kernel)) rfl), ⟨by decide +kernel, by decide +kernel⟩, by decide +kernel, by decide +kernel, ⟨by decide +kernel, by decide⟩⟩
theorem im120 : Cond.instanceMethod (a_y 120) ∈ a_tb := (a_tbm (List.mem_of_getElem? (i := 1169) (by decide +kernel)) rfl)
theorem sel120 : Cond.selects (a_y 120).cls (a_y 120) (a_y 120) ∈ a_tb := (a_tbm (List.mem_of_getElem? (i := 1170) (by decide +kernel)) rfl)
theorem ml_RL_172m : Cond.methodLink RL 172 (a_y 120) ∈ a_tb := (a_tbm (List.mem_of_getElem? (i := 1168) (by decide +kernel)) rfl)
theorem ml_RL_172 : a_ml RL 172 120 := Or.inl ml_RL_172m
theorem mw264 : a_mw 264 3 := ⟨(a_tbm (List.mem_of_getElem? (i := 2040) (by decide +kernel)) rfl), (a_tbm (List.mem_of_getElem? (i := 166) (by decide +kernel)) rfl), ⟨by decide +kernel, by decide +kernel⟩, by decide +kernel, by decide +kernel, ⟨by decide +kernel, by decide⟩⟩
theorem im264 : Cond.instanceMethod (a_y 264) ∈ a_tb := (a_tbm (List.mem_of_getElem? (i := 2038) (by decide +kernel)) rfl)
theorem sel264 : Cond.selects (a_y 264).cls (a_y 264) (a_y 264) ∈ a_tb := (a_tbm (List.mem_of_getElem? (i := 2039) (by decide +kernel)) rfl)
theorem ml_RL_176m : Cond.methodLink RL 176 (a_y 264) ∈ a_tb := (a_tbm (List.mem_of_getElem? (i := 2037) (by decide +kernel)) rfl)
theorem ml_RL_176 : a_ml RL 176 264 := Or.inl ml_RL_176m
theorem mw122 : a_mw 122 1 := ⟨(a_tbm (List.mem_of_getElem? (i := 1183) (by decide +kernel)) rfl), (a_tbm (List.mem_of_getElem? (i := 150) (by decide +kernel)) rfl), ⟨by decide +kernel, by decide +kernel⟩, by decide +kernel, by decide +kernel, ⟨by decide +kernel, by decide⟩⟩
theorem im122 : Cond.instanceMethod (a_y 122) ∈ a_tb := (a_tbm (List.mem_of_getElem? (i := 1181) (by decide +kernel)) rfl)
theorem sel122 : Cond.selects (a_y 122).cls (a_y 122) (a_y 122) ∈ a_tb := (a_tbm (List.mem_of_getElem? (i := 1182) (by decide +kernel)) rfl)
theorem ml_RL_177m : Cond.methodLink RL 177 (a_y 122) ∈ a_tb := (a_tbm (List.mem_of_getElem? (i := 1180) (by decide +kernel)) rfl)
theorem ml_RL_177 : a_ml RL 177 122 := Or.inl ml_RL_177m
theorem mw265 : a_mw 265 1 := ⟨(a_tbm (List.mem_of_getElem? (i := 2052) (by decide +kernel)) rfl), (a_tbm (List.mem_of_getElem? (i := 166) (by decide +kernel)) rfl), ⟨by decide +kernel, by decide +kernel⟩, by decide +kernel, by decide +kernel, ⟨by decide +kernel, by decide⟩⟩
theorem im265 : Cond.instanceMethod (a_y 265) ∈ a_tb := (a_tbm (List.mem_of_getElem? (i := 2050) (by decide +kernel)) rfl)
theorem sel265 : Cond.selects (a_y 265).cls (a_y 265) (a_y 265) ∈ a_tb := (a_tbm (List.mem_of_getElem? (i := 2051) (by decide +kernel)) rfl)
theorem ml_RL_180m : Cond.methodLink RL 180 (a_y 265) ∈ a_tb := (a_tbm (List.mem_of_getElem? (i := 2049) (by decide +kernel)) rfl)
theorem ml_RL_180 : a_ml RL 180 265 := Or.inl ml_RL_180m
theorem mw123 : a_mw 123 3 := ⟨(a_tbm (List.mem_of_getElem? (i := 1195) (by decide +kernel)) rfl), (a_tbm (List.mem_of_getElem? (i := 150) (by decide +kernel)) rfl), ⟨by decide +kernel, by decide +kernel⟩, by decide +kernel, by decide +kernel, ⟨by decide +kernel, by decide⟩⟩
theorem im123 : Cond.instanceMethod (a_y 123) ∈ a_tb := (a_tbm (List.mem_of_getElem? (i := 1193) (by decide +kernel)) rfl)
theorem sel123 : Cond.selects (a_y 123).cls (a_y 123) (a_y 123) ∈ a_tb := (a_tbm (List.mem_of_getElem? (i := 1194) (by decide +kernel)) rfl)
theorem ml_RL_181m : Cond.methodLink RL 181 (a_y 123) ∈ a_tb := (a_tbm (List.mem_of_getElem? (i := 1192) (by decide +kernel)) rfl)
theorem ml_RL_181 : a_ml RL 181 123 := Or.inl ml_RL_181m
theorem mw266 : a_mw 266 3 := ⟨(a_tbm (List.mem_of_getElem? (i := 2057) (by decide +kernel)) rfl), (a_tbm (List.mem_of_getElem? (i := 166) (by decide +kernel)) rfl), ⟨by decide +kernel, by decide +kernel⟩, by decide +kernel, by decide +kernel, ⟨by decide +kernel, by decide⟩⟩
theorem im266 : Cond.instanceMethod (a_y 266) ∈ a_tb := (a_tbm (List.mem_of_getElem? (i := 2055) (by decide +kernel)) rfl)
theorem sel266 : Cond.selects (a_y 266).cls (a_y 266) (a_y 266) ∈ a_tb := (a_tbm (List.mem_of_getElem? (i := 2056) (by decide +kernel)) rfl)
theorem ml_RL_184m : Cond.methodLink RL 184 (a_y 266) ∈ a_tb := (a_tbm (List.mem_of_getElem? (i := 2054) (by decide +kernel)) rfl)
theorem ml_RL_184 : a_ml RL 184 266 := Or.inl ml_RL_184m
theorem mw124 : a_mw 124 1 := ⟨(a_tbm (List.mem_of_getElem? (i := 1199) (by decide +kernel)) rfl), (a_tbm (List.mem_of_getElem? (i := 150) (by decide +kernel)) rfl), ⟨by decide +kernel, by decide +kernel⟩, by decide +kernel, by decide +kernel, ⟨by decide +kernel, by decide⟩⟩
theorem im124 : Cond.instanceMethod (a_y 124) ∈ a_tb := (a_tbm (List.mem_of_getElem? (i := 1197) (by decide +kernel)) rfl)
theorem sel124 : Cond.selects (a_y 124).cls (a_y 124) (a_y 124) ∈ a_tb := (a_tbm (List.mem_of_getElem? (i := 1198) (by decide +kernel)) rfl)
theorem ml_RL_185m : Cond.methodLink RL 185 (a_y 124) ∈ a_tb := (a_tbm (List.mem_of_getElem? (i := 1196) (by decide +kernel)) rfl)
theorem ml_RL_185 : a_ml RL 185 124 := Or.inl ml_RL_185m
theorem mw268 : a_mw 268 1 := ⟨(a_tbm (List.mem_of_getElem? (i := 2061) (by decide +kernel)) rfl), (a_tbm (List.mem_of_getElem? (i := 166) (by decide +kernel)) rfl), ⟨by decide +kernel, by decide +kernel⟩, by decide +kernel, by decide +kernel, ⟨by decide +kernel, by decide⟩⟩
theorem im268 : Cond.instanceMethod (a_y 268) ∈ a_tb := (a_tbm (List.mem_of_getElem? (i := 2059) (by decide +kernel)) rfl)
theorem sel268 : Cond.selects (a_y 268).cls (a_y 268) (a_y 268) ∈ a_tb := (a_tbm (List.mem_of_getElem? (i := 2060) (by decide +kernel)) rfl)
theorem ml_RL_189m : Cond.methodLink RL 189 (a_y 268) ∈ a_tb := (a_tbm (List.mem_of_getElem? (i := 2058) (by decide +kernel)) rfl)
theorem ml_RL_189 : a_ml RL 189 268 := Or.inl ml_RL_189m
theorem mw125 : a_mw 125 2 := ⟨(a_tbm (List.mem_of_getElem? (i := 1215) (by decide +kernel)) rfl), (a_tbm (List.mem_of_getElem? (i := 150) (by decide +kernel)) rfl), ⟨by decide +kernel, by decide +kernel⟩, by decide +kernel, by decide +kernel, ⟨by decide +kernel, by decide⟩⟩
theorem im125 : Cond.instanceMethod (a_y 125) ∈ a_tb := (a_tbm (List.mem_of_getElem? (i := 1213) (by decide +kernel)) rfl)
theorem sel125 : Cond.selects (a_y 125).cls (a_y 125) (a_y 125) ∈ a_tb := (a_tbm (List.mem_of_getElem? (i := 1214) (by decide +kernel)) rfl)
theorem ml_RL_190m : Cond.methodLink RL 190 (a_y 125) ∈ a_tb := (a_tbm (List.mem_of_getElem? (i := 1212) (by decide +kernel)) rfl)
theorem ml_RL_190 : a_ml RL 190 125 := Or.inl ml_RL_190m
theorem mw269 : a_mw 269 2 := ⟨(a_tbm (List.mem_of_getElem? (i := 2077) (by decide +kernel)) rfl), (a_tbm (List.mem_of_getElem? (i := 166) (by decide +kernel)) rfl), ⟨by decide +kernel, by decide +kernel⟩, by decide +kernel, by decide +kernel, ⟨by decide +kernel, by decide⟩⟩
theorem im269 : Cond.instanceMethod (a_y 269) ∈ a_tb := (a_tbm (List.mem_of_getElem? (i := 2075) (by decide +kernel)) rfl)
theorem sel269 : Cond.selects (a_y 269).cls (a_y 269) (a_y 269) ∈ a_tb := (a_tbm (List.mem_of_getElem? (i := 2076) (by decide +kernel)) rfl)
theorem ml_RL_194m : Cond.methodLink RL 194 (a_y 269) ∈ a_tb := (a_tbm (List.mem_of_getElem? (i := 2074) (by decide +kernel)) rfl)
theorem ml_RL_194 : a_ml RL 194 269 := Or.inl ml_RL_194m
theorem mw126 : a_mw 126 2 := ⟨(a_tbm (List.mem_of_getElem? (i := 1219) (by decide +kernel)) rfl), (a_tbm (List.mem_of_getElem? (i := 150) (by decide +kernel)) rfl), ⟨by decide +kernel, by decide +kernel⟩, by decide +kernel, by decide +kernel, ⟨by decide +kernel, by decide⟩⟩
theorem im126 : Cond.instanceMethod (a_y 126) ∈ a_tb := (a_tbm (List.mem_of_getElem? (i := 1217) (by decide +kernel)) rfl)
theorem sel126 : Cond.selects (a_y 126).cls (a_y 126) (a_y 126) ∈ a_tb := (a_tbm (List.mem_of_getElem? (i := 1218) (by decide +kernel)) rfl)
theorem ml_RL_195m : Cond.methodLink RL 195 (a_y 126) ∈ a_tb := (a_tbm (List.mem_of_getElem? (i := 1216) (by decide +kernel)) rfl)
theorem ml_RL_195 : a_ml RL 195 126 := Or.inl ml_RL_195m
theorem mw270 : a_mw 270 2 := ⟨(a_tbm (List.mem_of_getElem? (i := 2081) (by decide +kernel)) rfl), (a_tbm (List.mem_of_getElem? (i := 166) (by decide +kernel)) rfl), ⟨by decide +kernel, by decide +kernel⟩, by decide +kernel, by decide +kernel, ⟨by decide +kernel, by decide⟩⟩
theorem im270 : Cond.instanceMethod (a_y 270) ∈ a_tb := (a_tbm (List.mem_of_getElem? (i := 2079) (by decide +kernel)) rfl)
theorem sel270 : Cond.selects (a_y 270).cls (a_y 270) (a_y 270) ∈ a_tb := (a_tbm (List.mem_of_getElem? (i := 2080) (by decide +kernel)) rfl)
theorem ml_RL_198m : Cond.methodLink RL 198 (a_y 270) ∈ a_tb := (a_tbm (List.mem_of_getElem? (i := 2078) (by decide +kernel)) rfl)
theorem ml_RL_198 : a_ml RL 198 270 := Or.inl ml_RL_198m
theorem mw127 : a_mw 127 1 := ⟨(a_tbm (List.mem_of_getElem? (i := 1224) (by decide +kernel)) rfl), (a_tbm (List.mem_of_getElem? (i := 150) (by decide +kernel)) rfl), ⟨by decide +kernel, by decide +kernel⟩, by decide +kernel, by decide +kernel, ⟨by decide +kernel, by decide⟩⟩
theorem im127 : Cond.instanceMethod (a_y 127) ∈ a_tb := (a_tbm (List.mem_of_getElem? (i := 1222) (by decide +kernel)) rfl)
theorem sel127 : Cond.selects (a_y 127).cls (a_y 127) (a_y 127) ∈ a_tb := (a_tbm (List.mem_of_getElem? (i := 1223) (by decide +kernel)) rfl)
theorem ml_RL_199m : Cond.methodLink RL 199 (a_y 127) ∈ a_tb := (a_tbm (List.mem_of_getElem? (i := 1221) (by decide +kernel)) rfl)
theorem ml_RL_199 : a_ml RL 199 127 := Or.inl ml_RL_199m
theorem mw271 : a_mw 271 1 := ⟨(a_tbm (List.mem_of_getElem? (i := 2085) (by decide +kernel)) rfl), (a_tbm (List.mem_of_getElem? (i := 166) (by decide +kernel)) rfl), ⟨by decide +kernel, by decide +kernel⟩, by decide +kernel, by decide +kernel, ⟨by decide +kernel, by decide⟩⟩
theorem im271 : Cond.instanceMethod (a_y 271) ∈ a_tb := (a_tbm (List.mem_of_getElem? (i := 2083) (by decide +kernel)) rfl)
theorem sel271 : Cond.selects (a_y 271).cls (a_y 271) (a_y 271) ∈ a_tb := (a_tbm (List.mem_of_getElem? (i := 2084) (by decide +kernel)) rfl)
theorem ml_RL_202m : Cond.methodLink RL 202 (a_y 271) ∈ a_tb := (a_tbm (List.mem_of_getElem? (i := 2082) (by decide +kernel)) rfl)
theorem ml_RL_202 : a_ml RL 202 271 := Or.inl ml_RL_202m
theorem mw128 : a_mw 128 0 := ⟨(a_tbm (List.mem_of_getElem? (i := 1228) (by decide +kernel)) rfl), (a_tbm (List.mem_of_getElem? (i := 150) (by decide +kernel)) rfl), ⟨by decide +kernel, by decide +kernel⟩, by decide +kernel, by decide +kernel, ⟨by decide +kernel, by decide⟩⟩
theorem im128 : Cond.instanceMethod (a_y 128) ∈ a_tb := (a_tbm (List.mem_of_getElem? (i := 1226) (by decide +kernel)) rfl)
theorem sel128 : Cond.selects (a_y 128).cls (a_y 128) (a_y 128) ∈ a_tb := (a_tbm (List.mem_of_getElem? (i := 1227) (by decide +kernel)) rfl)
theorem ml_RL_203m : Cond.methodLink RL 203 (a_y 128) ∈ a_tb := (a_tbm (List.mem_of_getElem? (i := 1225) (by decide +kernel)) rfl)
theorem ml_RL_203 : a_ml RL 203 128 := Or.inl ml_RL_203m
theorem mw272 : a_mw 272 0 := ⟨(a_tbm (List.mem_of_getElem? (i := 2089) (by decide +kernel)) rfl), (a_tbm (List.mem_of_getElem? (i := 166) (by decide +kernel)) rfl), ⟨by decide +kernel, by decide +kernel⟩, by decide +kernel, by decide +kernel, ⟨by decide +kernel, by decide⟩⟩
theorem im272 : Cond.instanceMethod (a_y 272) ∈ a_tb := (a_tbm (List.mem_of_getElem? (i := 2087) (by decide +kernel)) rfl)
theorem sel272 : Cond.selects (a_y 272).cls (a_y 272) (a_y 272) ∈ a_tb := (a_tbm (List.mem_of_getElem? (i := 2088) (by decide +kernel)) rfl)
theorem ml_RL_207m : Cond.methodLink RL 207 (a_y 272) ∈ a_tb := (a_tbm (List.mem_of_getElem? (i := 2086) (by decide +kernel)) rfl)
theorem ml_RL_207 : a_ml RL 207 272 := Or.inl ml_RL_207m
theorem mw129 : a_mw 129 0 := ⟨(a_tbm (List.mem_of_getElem? (i := 1236) (by decide +kernel)) rfl), (a_tbm (List.mem_of_getElem? (i := 150) (by decide +kernel)) rfl), ⟨by decide +kernel, by decide +kernel⟩, by decide +kernel, by decide +kernel, ⟨by decide +kernel, by decide⟩⟩
theorem im129 : Cond.instanceMethod (a_y 129) ∈ a_tb := (a_tbm (List.mem_of_getElem? (i := 1234) (by decide +kernel)) rfl)
theorem sel129 : Cond.selects (a_y 129).cls (a_y 129) (a_y 129) ∈ a_tb := (a_tbm (List.mem_of_getElem? (i := 1235) (by decide +kernel)) rfl)
theorem ml_RL_208m : Cond.methodLink RL 208 (a_y 129) ∈ a_tb := (a_tbm (List.mem_of_getElem? (i := 1233) (by decide +kernel)) rfl)
theorem ml_RL_208 : a_ml RL 208 129 := Or.inl ml_RL_208m
theorem mw273 : a_mw 273 0 := ⟨(a_tbm (List.mem_of_getElem? (i := 2093) (by decide +kernel)) rfl), (a_tbm (List.mem_of_getElem? (i := 166) (by decide +kernel)) rfl), ⟨by decide +kernel, by decide +kernel⟩, by decide +kernel, by decide +kernel, ⟨by decide +kernel, by decide⟩⟩
theorem im273 : Cond.instanceMethod (a_y 273) ∈ a_tb := (a_tbm (List.mem_of_getElem? (i := 2091) (by decide +kernel)) rfl)
theorem sel273 : Cond.selects (a_y 273).cls (a_y 273) (a_y 273) ∈ a_tb := (a_tbm (List.mem_of_getElem? (i := 2092) (by decide +kernel)) rfl)
theorem ml_RL_211m : Cond.methodLink RL 211 (a_y 273) ∈ a_tb := (a_tbm (List.mem_of_getElem? (i := 2090) (by decide +kernel)) rfl)
theorem ml_RL_211 : a_ml RL 211 273 := Or.inl ml_RL_211m
theorem mw130 : a_mw 130 1 := ⟨(a_tbm (List.mem_of_getElem? (i := 1244) (by decide +kernel)) rfl), (a_tbm (List.mem_of_getElem? (i := 150) (by decide +kernel)) rfl), ⟨by decide +kernel, by decide +kernel⟩, by decide +kernel, by decide +kernel, ⟨by decide +kernel, by decide⟩⟩
theorem im130 : Cond.instanceMethod (a_y 130) ∈ a_tb := (a_tbm (List.mem_of_getElem? (i := 1242) (by decide +kernel)) rfl)
theorem sel130 : Cond.selects (a_y 130).cls (a_y 130) (a_y 130) ∈ a_tb := (a_tbm (List.mem_of_getElem? (i := 1243) (by decide +kernel)) rfl)
theorem ml_RL_212m : Cond.methodLink RL 212 (a_y 130) ∈ a_tb := (a_tbm (List.mem_of_getElem? (i := 1241) (by decide +kernel)) rfl)
theorem ml_RL_212 : a_ml RL 212 130 := Or.inl ml_RL_212m
theorem mw274 : a_mw 274 1 := ⟨(a_tbm (List.mem_of_getElem? (i := 2097) (by decide +kernel)) rfl), (a_tbm (List.mem_of_getElem? (i := 166) (by decide +kernel)) rfl), ⟨by decide +kernel, by decide +kernel⟩, by decide +kernel, by decide +kernel, ⟨by decide +kernel, by decide⟩⟩
theorem im274 : Cond.instanceMethod (a_y 274) ∈ a_tb := (a_tbm (List.mem_of_getElem? (i := 2095) (by decide +kernel)) rfl)
theorem sel274 : Cond.selects (a_y 274).cls (a_y 274) (a_y 274) ∈ a_tb := (a_tbm (List.mem_of_getElem? (i := 2096) (by decide +kernel)) rfl)
theorem ml_RL_215m : Cond.methodLink RL 215 (a_y 274) ∈ a_tb := (a_tbm (List.mem_of_getElem? (i := 2094) (by decide +kernel)) rfl)
theorem ml_RL_215 : a_ml RL 215 274 := Or.inl ml_RL_215m
theorem mw275 : a_mw 275 1 := ⟨(a_tbm (List.mem_of_getElem? (i := 2101) (by decide +kernel)) rfl), (a_tbm (List.mem_of_getElem? (i := 166) (by decide +kernel)) rfl), ⟨by decide +kernel, by decide +kernel⟩, by decide +kernel, by decide +kernel, ⟨by decide +kernel, by decide⟩⟩
theorem im275 : Cond.instanceMethod (a_y 275) ∈ a_tb := (a_tbm (List.mem_of_getElem? (i := 2099) (by decide +kernel)) rfl)
theorem sel275 : Cond.selects (a_y 275).cls (a_y 275) (a_y 275) ∈ a_tb := (a_tbm (List.mem_of_getElem? (i := 2100) (by decide +kernel)) rfl)
theorem ml_RL_221m : Cond.methodLink RL 221 (a_y 275) ∈ a_tb := (a_tbm (List.mem_of_getElem? (i := 2098) (by decide +kernel)) rfl)
theorem ml_RL_221 : a_ml RL 221 275 := Or.inl ml_RL_221m
theorem mw154 : a_mw 154 0 := ⟨(a_tbm (List.mem_of_getElem? (i := 1430) (by decide +kernel)) rfl), (a_tbm (List.mem_of_getElem? (i := 166) (by decide +kernel)) rfl), ⟨by decide +kernel, by decide +kernel⟩, by decide +kernel, by decide +kernel, ⟨by decide +kernel, by decide⟩⟩
theorem im154 : Cond.instanceMethod (a_y 154) ∈ a_tb := (a_tbm (List.mem_of_getElem? (i := 1428) (by decide +kernel)) rfl)
theorem sel154 : Cond.selects (a_y 154).cls (a_y 154) (a_y 154) ∈ a_tb := (a_tbm (List.mem_of_getElem? (i := 1429) (by decide +kernel)) rfl)
theorem ml_RL_222m : Cond.methodLink RL 222 (a_y 154) ∈ a_tb := (a_tbm (List.mem_of_getElem? (i := 1427) (by decide +kernel)) rfl)
theorem ml_RL_222 : a_ml RL 222 154 := Or.inl ml_RL_222m
theorem mw132 : a_mw 132 1 := ⟨(a_tbm (List.mem_of_getElem? (i := 1252) (by decide +kernel)) rfl), (a_tbm (List.mem_of_getElem? (i := 150) (by decide +kernel)) rfl), ⟨by decide +kernel, by decide +kernel⟩, by decide +kernel, by decide +kernel, ⟨by decide +kernel, by decide⟩⟩
theorem im132 : Cond.instanceMethod (a_y 132) ∈ a_tb := (a_tbm (List.mem_of_getElem? (i := 1250) (by decide +kernel)) rfl)
theorem sel132 : Cond.selects (a_y 132).cls (a_y 132) (a_y 132) ∈ a_tb := (a_tbm (List.mem_of_getElem? (i := 1251) (by decide +kernel)) rfl)
theorem ml_RL_225m : Cond.methodLink RL 225 (a_y 132) ∈ a_tb := (a_tbm (List.mem_of_getElem? (i := 1249) (by decide +kernel)) rfl)
theorem ml_RL_225 : a_ml RL 225 132 := Or.inl ml_RL_225m
theorem mw276 : a_mw 276 1 := ⟨(a_tbm (List.mem_of_getElem? (i := 2105) (by decide +kernel)) rfl), (a_tbm (List.mem_of_getElem? (i := 166) (by decide +kernel)) rfl), ⟨by decide +kernel, by decide +kernel⟩, by decide +kernel, by decide +kernel, ⟨by decide +kernel, by decide⟩⟩
theorem im276 : Cond.instanceMethod (a_y 276) ∈ a_tb := (a_tbm (List.mem_of_getElem? (i := 2103) (by decide +kernel)) rfl)
theorem sel276 : Cond.selects (a_y 276).cls (a_y 276) (a_y 276) ∈ a_tb := (a_tbm (List.mem_of_getElem? (i := 2104) (by decide +kernel)) rfl)
theorem ml_RL_228m : Cond.methodLink RL 228 (a_y 276) ∈ a_tb := (a_tbm (List.mem_of_getElem? (i := 2102) (by decide +kernel)) rfl)
theorem ml_RL_228 : a_ml RL 228 276 := Or.inl ml_RL_228m
theorem mw133 : a_mw 133 0 := ⟨(a_tbm (List.mem_of_getElem? (i := 1256) (by decide +kernel)) rfl), (a_tbm (List.mem_of_getElem? (i := 150) (by decide +kernel)) rfl), ⟨by decide +kernel, by decide +kernel⟩, by decide +kernel, by decide +kernel, ⟨by decide +kernel, by decide⟩⟩
theorem im133 : Cond.instanceMethod (a_y 133) ∈ a_tb := (a_tbm (List.mem_of_getElem? (i := 1254) (by decide +kernel)) rfl)
theorem sel133 : Cond.selects (a_y 133).cls (a_y 133) (a_y 133) ∈ a_tb := (a_tbm (List.mem_of_getElem? (i := 1255) (by decide +kernel)) rfl)
theorem ml_RL_229m : Cond.methodLink RL 229 (a_y 133) ∈ a_tb := (a_tbm (List.mem_of_getElem? (i := 1253) (by decide +kernel)) rfl)
theorem ml_RL_229 : a_ml RL 229 133 := Or.inl ml_RL_229m
theorem mw277 : a_mw 277 0 := ⟨(a_tbm (List.mem_of_getElem? (i := 2109) (by decide +kernel)) rfl), (a_tbm (List.mem_of_getElem? (i := 166) (by decide +kernel)) rfl), ⟨by decide +kernel, by decide +kernel⟩, by decide +kernel, by decide +kernel, ⟨by decide +kernel, by decide⟩⟩
theorem im277 : Cond.instanceMethod (a_y 277) ∈ a_tb := (a_tbm (List.mem_of_getElem? (i := 2107) (by decide +kernel)) rfl)
theorem sel277 : Cond.selects (a_y 277).cls (a_y 277) (a_y 277) ∈ a_tb := (a_tbm (List.mem_of_getElem? (i := 2108) (by decide +kernel)) rfl)
theorem ml_RL_232m : Cond.methodLink RL 232 (a_y 277) ∈ a_tb := (a_tbm (List.mem_of_getElem? (i := 2106) (by decide +kernel)) rfl)
theorem ml_RL_232 : a_ml RL 232 277 := Or.inl ml_RL_232m
theorem n282_0 : a_Snd 282 0 (s_aldl 2 1) := snd_aload_n (k := 2) rfl (by decide +kernel)
theorem n282_1 : a_Snd 282 1 (s_push (.int 0) 2) := snd_iconst (n := 0) (by decide) (by decide +kernel)
theorem n282_2 : a_Snd 282 2 (s_aldl 0 3) := snd_aload_n (k := 0) rfl (by decide +kernel)
theorem n282_3 : a_Snd 282 3 (s_ildl 1 4) := snd_iload_n (k := 1) rfl (by decide +kernel)
theorem n282_4 : a_Snd 282 4 (s_callX 14 131 2 4 true 5 9 3) := snd_callX (ci := 11) (idx := 7) rfl okc11 rfl mw131 rfl rfl (by decide +kernel) im131 sel131 ml_RL_7m (by decide +kernel) (by decide +kernel) (a_tbm (List.mem_of_getElem? (i := 1260) (by decide +kernel)) rfl) (a_tbm (List.mem_of_getElem? (i := 1268) (by decide +kernel)) rfl) (by decide +kernel) (by decide +kernel) (by decide +kernel)
theorem n282_5 : a_Snd 282 5 (s_i2l 6) := snd_i2l (by decide +kernel)
theorem n282_6 : a_Snd 282 6 (s_las 7) := snd_lastore (by decide +kernel)
theorem n282_7 : a_Snd 282 7 (s_goto 11) := snd_goto (off := 6) (by decide +kernel) (by decide +kernel)
theorem n282_8 : a_Snd 282 8 (s_no) := snd_no
theorem n282_9 : a_Snd 282 9 (s_push (.int 1) 10) := snd_iconst (n := 1) (by decide) (by decide +kernel)
theorem n282_10 : a_Snd 282 10 (s_iret) := snd_iret (by decide +kernel) (by decide +kernel)
theorem n282_11 : a_Snd 282 11 (s_push (.int 0) 12) := snd_iconst (n := 0) (by decide) (by decide +kernel)
theorem n282_12 : a_Snd 282 12 (s_iret) := snd_iret (by decide +kernel) (by decide +kernel)
theorem S282 : a_SL 282 0 k282 := (a_SLc 1 n282_0 rfl (a_SLc 2 n282_1 rfl (a_SLc 3 n282_2 rfl (a_SLc 4 n282_3 rfl (a_SLc 5 n282_4 rfl (a_SLc 6 n282_5 rfl (a_SLc 7 n282_6 rfl (a_SLc 8 n282_7 rfl (a_SLc 9 n282_8 rfl (a_SLc 10 n282_9 rfl (a_SLc 11 n282_10 rfl (a_SLc 12 n282_11 rfl (a_SLc 13 n282_12 rfl trivial)))))))))))))
