import java.util.NoSuchElementException;

/** All that can be seen of a work, in parts; a look may change the work, so each part wants an own one. */
final class Looks {
    private static final int FIRST_CHAIN = 7;
    private static final int FIRST_REGISTER = FIRST_CHAIN + 4;
    static final int PARTS = FIRST_REGISTER + 10;

    private Looks() { }

    /** Whether an image keeps it: not so the output and the text, the changes, the images. */
    static boolean isKept(int part) {
        return part >= 1 && part <= 3 || part >= FIRST_CHAIN;
    }

    static String at(Chainwork work, int part) {
        StringBuilder seen = new StringBuilder();
        switch (part) {
            case 0: output(work, seen); break;
            case 1: numbers(work, seen); break;
            case 2: laws(work, seen); break;
            case 3: rests(work, seen); break;
            case 4: changes(work, seen); break;
            case 5: image(work, 0, seen); break;
            case 6: image(work, 1, seen); break;
            default:
                if (part < FIRST_REGISTER) {
                    chain(work, part - FIRST_CHAIN, seen);
                } else {
                    register(work, part - FIRST_REGISTER, seen);
                }
        }
        return seen.toString();
    }

    private static void output(Chainwork work, StringBuilder seen) {
        boolean isThere = true;
        for (int i = 0; isThere; i++) {
            try {
                seen.append((char) work.outputAt(i));
            } catch (NoSuchElementException e) {
                isThere = false;
            }
        }
        seen.append(" text ").append(work.errorPlace()).append(' ').append(work.clearText());
    }

    private static void numbers(Chainwork work, StringBuilder seen) {
        few(work, seen);
        seen.append(work.orders()).append(' ').append(work.errors()).append(' ').append(work.checksum());
        seen.append(' ').append(work.meanLines()).append(' ').append(work.provedShare());
        work.variable(0, 0);
        int free = 0;
        for (int name = 0; name < 100; name++) {
            free += isMade(work, name) ? 1 : 0;
        }
        seen.append(" equivalences that can still be told ").append(free);
    }

    private static boolean isMade(Chainwork work, int name) {
        try {
            return work.equivalence(name, 0, 0, 0, 0) > 0;
        } catch (IllegalStateException e) {
            return false;
        }
    }

    private static void laws(Chainwork work, StringBuilder seen) {
        for (int name = firstLaw(work); name != Chainwork.NONE; name = work.lawAt(name, 5)) {
            seen.append(name).append(' ').append(Due.output(work, work.writeLaw(name))).append(' ');
        }
    }

    private static void rests(Chainwork work, StringBuilder seen) {
        for (int name = firstLaw(work); name != Chainwork.NONE; name = work.lawAt(name, 5)) {
            seen.append(name);
            for (int what = 0; what < 5; what++) {
                seen.append(' ').append(work.lawAt(name, what));
            }
            seen.append(';');
        }
    }

    private static int firstLaw(Chainwork work) {
        for (int name = 0; name < 100; name++) {
            try {
                work.lawAt(name, 0);
                return name;
            } catch (NoSuchElementException e) {
                continue;
            }
        }
        return Chainwork.NONE;
    }

    private static void changes(Chainwork work, StringBuilder seen) {
        boolean isThere = true;
        while (isThere) {
            few(work, seen);
            try {
                seen.append("undo ").append(work.undo()).append(' ');
            } catch (IllegalStateException e) {
                isThere = false;
            }
        }
    }

    private static void image(Chainwork work, int image, StringBuilder seen) {
        try {
            seen.append(work.restore(image)).append(' ');
            few(work, seen);
        } catch (IllegalStateException e) {
            seen.append("no image");
        }
    }

    private static void few(Chainwork work, StringBuilder seen) {
        seen.append(work.signs()).append(' ').append(work.laws()).append(' ').append(work.open()).append(' ');
        for (int chain = 0; chain < 4; chain++) {
            seen.append(work.lines(chain)).append(' ');
        }
        for (int register = 0; register < 10; register++) {
            seen.append(work.termAt(register, 0)).append(' ');
        }
    }

    private static void chain(Chainwork work, int chain, StringBuilder seen) {
        seen.append(work.relation(chain)).append(' ').append(work.wrong(chain)).append(' ').append(work.needs(chain));
        int lines = work.lines(chain);
        for (int line = 1; line < lines; line++) {
            for (int what = 0; what < 5; what++) {
                seen.append(' ').append(work.stepAt(chain, line, what));
            }
        }
        for (int line = 0; line < lines; line++) {
            work.take(chain, line, 0);
            seen.append(' ').append(Due.written(work, 0));
        }
    }

    private static void register(Chainwork work, int register, StringBuilder seen) {
        int size = work.termAt(register, 0);
        seen.append(size);
        for (int place = 0; place < size; place++) {
            seen.append(' ').append(work.direction(register, place));
        }
        if (size != Chainwork.NONE) {
            seen.append(' ').append(Due.written(work, register));
        }
    }
}
