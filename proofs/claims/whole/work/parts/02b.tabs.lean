theorem obj_inst : Cond.instanceMethod Lib.objectInit ∈ gw_tbl := tmem 23 (by decide +kernel)
theorem obj_code : Cond.code Lib.objectInit ⟨#[0xb1]⟩ 1 none ∈ gw_tbl := tmem 24 (by decide +kernel)
theorem ac_int : Cond.arrayClass .int ∈ gw_tbl := tmem 59 (by decide +kernel)
theorem ac_long : Cond.arrayClass .long ∈ gw_tbl := tmem 79 (by decide +kernel)
theorem ac_boolean : Cond.arrayClass .boolean ∈ gw_tbl := tmem 149 (by decide +kernel)
theorem ac_copy : Cond.native arraycopyName ∈ gw_tbl ∧ Cond.static arraycopyName ∈ gw_tbl ∧ Cond.initialized "java/lang/System" ∈ gw_tbl := ⟨tmem 417 (by decide +kernel), tmem 416 (by decide +kernel), tmem 15 (by decide +kernel)⟩
