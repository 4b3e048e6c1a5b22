section ST21
end ST21
