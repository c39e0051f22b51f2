theorem zz_wide (x : UInt32) : FP.Core.fits FP.Core.b32 (FP.Core.val32 x) := FP.Core.val32_fits x
