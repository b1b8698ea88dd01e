/-! The texts of the throw sites: their words. By program (wip/gen/gen20t.py). -/
set_option maxRecDepth 100000 in
theorem KTHs_eq : KTH.map (fun q => some (Cond.stringRef (kown (kme q.1).1) q.2.2.2.2.1 q.2.2.2.2.2.2)) = [891, 905, 914, 933, 948, 524, 671, 492, 816, 573, 574, 827, 845, 855, 772, 861, 866, 867, 869, 868, 677, 676, 661].map (fun i => lw_tbl[i]?) := rfl
theorem KTHx_ok : KTH.all (fun q => decide ((kown (kme q.1).1, q.2.2.2.2.1) ∈ KSX)) = true := by decide +kernel
