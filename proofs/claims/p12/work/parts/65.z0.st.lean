section ST13
end ST13
