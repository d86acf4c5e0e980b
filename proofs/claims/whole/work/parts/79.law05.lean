/-! entries checked -/
set_option maxRecDepth 100000 in
def yv423_10_all : List ((Nat × Nat × Nat) × List (Nat × Nat)) := [((0, 0, 0), []), ((0, 0, 0), []), ((0, 0, 0), [])]
set_option maxRecDepth 100000 in
theorem yt423_10_all : (ychk xFk yM 4 226 423 (yM 423) 2000 itiL_law_10 yv423_10_all && (itiL_law_10).all (fun r => !Nat.beq r.1 32 || Nat.blt r.2.1 423)) = true := by decide +kernel
