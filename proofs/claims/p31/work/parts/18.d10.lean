/-! ===== methods as functions, and that the machine answers as they do ===== -/

