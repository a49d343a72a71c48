/** What the tests of the project share: answers that are due, and terms put into registers by texts. */
final class Due {
    private static int looked = 0;
    private static int wrong = 0;
    private static int lookedBefore = -1;

    private Due() { }

    /** Something must have been looked at since the last call of this. */
    static void some(String what) {
        if (looked == lookedBefore) {
            wrong++;
            System.out.println(what + " has no test");
        }
        lookedBefore = looked;
    }

    static void same(String what, double got, double want) {
        looked++;
        if (got != want) {
            wrong++;
            System.out.println(what + " answered " + got + ", due is " + want);
        }
    }

    static void yes(String what, boolean got) {
        same(what, got ? 1 : 0, 1);
    }

    static void no(String what, boolean got) {
        same(what, got ? 1 : 0, 0);
    }

    /** The call must throw just this exception (of this class, not of one below it). */
    static void thrown(String what, Class<? extends RuntimeException> due, Runnable call) {
        looked++;
        Class<?> got = null;
        try {
            call.run();
        } catch (RuntimeException e) {
            got = e.getClass();
        }
        if (got != due) {
            wrong++;
            System.out.println(what + " threw " + got + ", due is " + due);
        }
    }

    /** Types a text, in place of the one that is there, eight bytes a call. */
    static int type(Chainwork work, String text) {
        work.clearText();
        int length = 0;
        for (int i = 0; i < text.length(); i += 8) {
            long bytes = 0;
            for (int k = i; k < Math.min(i + 8, text.length()); k++) {
                bytes = bytes << 8 | text.charAt(k);
            }
            length = work.type(bytes);
        }
        return length;
    }

    static int read(Chainwork work, int register, String term) {
        type(work, term);
        return work.read(register);
    }

    static String output(Chainwork work, int length) {
        StringBuilder text = new StringBuilder();
        for (int i = 0; i < length; i++) {
            text.append((char) work.outputAt(i));
        }
        return text.toString();
    }

    static String written(Chainwork work, int register) {
        return output(work, work.write(register));
    }

    static void text(String what, String got, String want) {
        looked++;
        if (!got.equals(want)) {
            wrong++;
            System.out.println(what + " answered " + got + ", due is " + want);
        }
    }

    static void law(Chainwork work, int name, String left, int relation, String right) {
        read(work, 8, left);
        read(work, 9, right);
        work.law(name, 8, relation, 9);
    }

    static void condition(Chainwork work, int name, String first, String second) {
        read(work, 8, first);
        read(work, 9, second);
        work.condition(name, 8, 9);
    }

    static int assume(Chainwork work, String first, String second) {
        read(work, 8, first);
        read(work, 9, second);
        return work.assume(8, 9);
    }

    static void begin(Chainwork work, int chain, String line) {
        read(work, 9, line);
        work.begin(chain, 9);
    }

    static int line(Chainwork work, int chain, int name, String line) {
        read(work, 9, line);
        return work.line(chain, name, 9);
    }

    static int step(Chainwork work, int chain, int name, String line) {
        read(work, 9, line);
        return work.step(chain, name, 9);
    }

    static String line(Chainwork work, int chain, int number) {
        work.take(chain, number, 9);
        return written(work, 9);
    }

    /** Ends the test: with exit code 1 if an answer was wrong. */
    static void end(String test) {
        System.out.println(test + ": " + looked + " answers, " + wrong + " of them wrong");
        if (wrong != 0 || looked == 0) {
            System.exit(1);
        }
    }
}
