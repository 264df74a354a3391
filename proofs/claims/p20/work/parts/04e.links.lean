set_option maxRecDepth 100000 in
theorem pm_ca_ok : pm_ca.all pm_okc = true := by decide +kernel

