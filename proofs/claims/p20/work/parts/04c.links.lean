set_option maxRecDepth 100000 in
theorem pm_mt_ok : ((pm_mt.zip pm_mp).take 186).all (fun q => pm_okm q.1 q.2) = true := by decide +kernel

