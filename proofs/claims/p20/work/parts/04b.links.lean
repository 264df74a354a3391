set_option maxRecDepth 100000 in
theorem pm_fl_ok : pm_fl.all pm_okf = true := by decide +kernel

