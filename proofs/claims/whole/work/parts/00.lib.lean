/-! ===== a law of the library's on quotients (this round is read over the whole library by it) ===== -/
theorem fl_quot (a b : UInt64) : FP.Core.val64 (FP.ddiv a b) = FP.Core.quotient FP.Core.b64 (FP.Core.val64 a) (FP.Core.val64 b) := FP.Core.val64_ddiv a b
