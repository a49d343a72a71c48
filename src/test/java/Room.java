import java.lang.management.ManagementFactory;

/**
 * What 512 of the dearest calls allocate: all calls of a run live in one room, so that rows must be
 * made in constructors. Bytes are told by the machine; each limit stands well above what is needed.
 */
public final class Room {
    private static int wrong = 0;

    private Room() { }

    private static long allocated() {
        com.sun.management.ThreadMXBean bean = (com.sun.management.ThreadMXBean) ManagementFactory.getThreadMXBean();
        return bean.getThreadAllocatedBytes(Thread.currentThread().getId());
    }

    private static void limit(String what, int times, long most, Runnable call) {
        call.run();
        long before = allocated();
        for (int i = 0; i < times; i++) {
            call.run();
        }
        long used = allocated() - before;
        System.out.println("Room: " + what + " allocated " + used + " bytes in " + times + " calls");
        if (used > most) {
            wrong++;
            System.out.println("  that is more than " + most);
        }
    }

    private static Chainwork wide() {
        Chainwork work = new Chainwork();
        for (int i = 0; i < 4; i++) {
            work.sign(2, 2, 2);
        }
        Due.law(work, 1, "p(a,b)", Chainwork.EQUAL, "p(b,a)");
        Due.law(work, 2, "p(p(a,b),c)", Chainwork.EQUAL, "p(a,p(b,c))");
        Due.law(work, 3, "q(a,b)", Chainwork.EQUAL, "q(b,a)");
        Due.condition(work, 3, "a", "b");
        Due.read(work, 0, "p(p(p(a,b),p(c,d)),p(p(a,a),p(b,p(c,d))))");
        Due.read(work, 1, "p(p(p(c,d),p(b,a)),p(p(a,a),p(b,p(c,d))))");
        Due.read(work, 2, "a");
        return work;
    }

    public static void main(String[] args) {
        limit("a new object", 10, 10 * 400_000, () -> new Chainwork().signs());
        Chainwork work = wide();
        limit("find", 512, 1_000_000, () -> {
            try {
                work.find(0, 0, 2, 0, 4);
            } catch (IllegalStateException e) {
                return;
            }
        });
        limit("find that finds", 512, 2_000_000, () -> work.find(0, 0, 1, 0, 4));
        limit("a law, the orders of it and undo", 100, 100 * 2_000, () -> {
            work.law(50, 0, 0, 0);
            work.orders();
            work.undo();
        });
        limit("fails", 512, 512 * 100, () -> work.fails(0, 0, 1, 0));
        limit("errors", 512, 512 * 500, work::errors);
        limit("relation", 512, 10_000, () -> work.relation(0));
        work.begin(1, 0);
        for (int i = 0; i < 11; i++) {
            work.line(1, 1, 0);
        }
        limit("turn", 512, 512 * 400, () -> work.turn(1));
        limit("wrong", 512, 10_000, () -> work.wrong(1));
        limit("stepAt", 512, 10_000, () -> work.stepAt(1, 1, 4));
        Due.type(work, "p(p(p(a,b),p(c,d)),p(p(a,a),p(b,p(c,d))))");
        limit("read", 512, 512 * 600, () -> work.read(5));
        limit("image and restore", 512, 512 * 50, () -> {
            work.image(0);
            work.restore(0);
        });
        System.out.println("Room: " + wrong + " wrong");
        if (wrong != 0) {
            System.exit(1);
        }
    }
}
