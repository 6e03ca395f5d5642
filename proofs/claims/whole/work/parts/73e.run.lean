/-! THE CONSTRUCTORS RUN -/
def cs1 : xT := nd 32 6 xz (nd 10 10178 xz (nd 57 0 xz xz))
def cs2 : xT := nd 32 10 xz (nd 10 11249 xz (nd 57 0 xz xz))
set_option maxRecDepth 1000000 in
theorem run_t : (et (tcall tmt 4000000 800) 4000000 (nd 10 7125 xz (nd 57 0 xz xz)) 0 ([(2, 0), (9, 0), (9, 0), (9, 0)], 50, xz)).isSome = true := by decide +kernel
