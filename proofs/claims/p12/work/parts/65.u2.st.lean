section ST3
end ST3
