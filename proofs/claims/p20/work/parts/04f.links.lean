set_option maxRecDepth 100000 in
theorem pm_w_obj : Cond.instanceMethod objectInit ∈ pm_ws ∧ Cond.code objectInit ⟨#[0xb1]⟩ 1 none ∈ pm_ws := ⟨pm_mem (i := 75) (by decide +kernel) (by decide +kernel), pm_mem (i := 76) rfl (by decide +kernel)⟩
set_option maxRecDepth 100000 in
theorem pm_w_cpy : Cond.native arraycopyName ∈ pm_ws ∧ Cond.static arraycopyName ∈ pm_ws ∧ Cond.initialized "java/lang/System" ∈ pm_ws := ⟨pm_mem (i := 475) (by decide +kernel) (by decide +kernel), pm_mem (i := 474) (by decide +kernel) (by decide +kernel), pm_mem (i := 66) (by decide +kernel) (by decide +kernel)⟩
set_option maxRecDepth 100000 in
theorem pm_w_max : Cond.static Lib.Math.max.name ∈ pm_ws ∧ Cond.static Lib.Math.min.name ∈ pm_ws ∧ Cond.initialized "java/lang/Math" ∈ pm_ws ∧ Cond.code Lib.Math.max.name Lib.Math.max.code 2 (some .int) ∈ pm_ws ∧ Cond.code Lib.Math.min.name Lib.Math.min.code 2 (some .int) ∈ pm_ws := ⟨pm_mem (i := 568) (by decide +kernel) (by decide +kernel), pm_mem (i := 609) (by decide +kernel) (by decide +kernel), pm_mem (i := 68) (by decide +kernel) (by decide +kernel), pm_mem (i := 569) rfl (by decide +kernel), pm_mem (i := 610) rfl (by decide +kernel)⟩
set_option maxRecDepth 100000 in
theorem pm_w_arr : Cond.arrayClass .int ∈ pm_ws ∧ Cond.arrayClass .boolean ∈ pm_ws ∧ Cond.arrayClass .long ∈ pm_ws ∧ Cond.arrayOver (.object "DrawLooms$Beam") ∈ lw_tbl := ⟨pm_mem (i := 147) (by decide +kernel) (by decide +kernel), pm_mem (i := 189) (by decide +kernel) (by decide +kernel), pm_mem (i := 101) (by decide +kernel) (by decide +kernel), List.mem_of_getElem? (i := 338) (by decide +kernel)⟩
set_option maxRecDepth 100000 in
theorem pm_nw_ok : pm_nw.all pm_okn = true := by decide +kernel
set_option maxRecDepth 100000 in
theorem pm_an_ok : pm_an.all (fun r => pm_at r.2.2 (.classLink (pm_nm r.1) r.2.1 "DrawLooms$Beam")) = true := by decide +kernel
set_option maxRecDepth 100000 in
theorem pm_ic_ok : pm_ic.all (fun r => pm_at r.2.2.2 (.constant (pm_nm r.1) r.2.1 (Int32.ofNat r.2.2.1))) = true := by decide +kernel
set_option maxRecDepth 100000 in
theorem pm_lc_ok : pm_lc.all (fun r => pm_at r.2.2.2 (.constantLong (pm_nm r.1) r.2.1 (Int64.ofNat r.2.2.1))) = true := by decide +kernel

