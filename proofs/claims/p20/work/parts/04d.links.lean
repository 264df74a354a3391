set_option maxRecDepth 100000 in
theorem pm_cw_ok : (pm_mt.take 186).map pm_cw = (pm_mp.take 186).filterMap (fun q => lw_tbl[q.1]?) := by rfl

