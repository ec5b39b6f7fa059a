/** What the tests share: counting wrong answers, and runs of calls that many of them begin with. */
final class Checks {
    interface Call {
        long make();
    }

    private final String name;
    private int wrong;

    Checks(String name) {
        this.name = name;
    }

    void same(String what, long got, long due) {
        if (got != due) {
            wrong++;
            System.out.println(name + ": " + what + " answered " + got + ", due is " + due);
        }
    }

    void yes(String what, boolean got) {
        same(what, got ? 1 : 0, 1);
    }

    void no(String what, boolean got) {
        same(what, got ? 1 : 0, 0);
    }

    void throwing(String what, Class<? extends RuntimeException> due, Call call) {
        String got = "nothing";
        try {
            call.make();
        } catch (RuntimeException e) {
            got = e.getClass().getName();
        }
        if (!got.equals(due.getName())) {
            wrong++;
            System.out.println(name + ": " + what + " threw " + got + ", due is " + due.getName());
        }
    }

    /** The call throws what is due and leaves all that can be seen as it was. */
    void refuses(String what, Class<? extends RuntimeException> due, QuorumLog x, Call call) {
        String before = seen(x);
        throwing(what, due, call);
        yes(what + " leaves all as it was", before.equals(seen(x)));
    }

    /** Roles, terms, .. as state tells them for what = 0 .. 8, in that order. */
    void states(String when, QuorumLog x, int server, int... due) {
        for (int what = 0; what < due.length; what++) {
            same(when + ": state(" + server + ", " + what + ")", x.state(server, what), due[what]);
        }
    }

    /** Kind, sender, .. as message tells them for what = 0 .. 6, in that order. */
    void messages(String when, QuorumLog x, int k, int... due) {
        for (int what = 0; what < due.length; what++) {
            same(when + ": message(" + k + ", " + what + ")", x.message(k, what), due[what]);
        }
    }

    void end() {
        System.out.println(name + ": " + (wrong == 0 ? "all answers are as due" : wrong + " answers are not as due"));
        if (wrong != 0) {
            System.exit(1);
        }
    }

    static String seen(QuorumLog x) {
        StringBuilder all = new StringBuilder();
        for (int server = 0; server < 5; server++) {
            for (int what = 0; what < 9; what++) {
                all.append(x.state(server, what)).append(' ');
            }
            for (int index = x.state(server, 4); index <= x.state(server, 5); index++) {
                for (int what = 0; what < 4; what++) {
                    all.append(x.entry(server, index, what)).append(' ');
                }
            }
            for (int key = 0; key < 4; key++) {
                all.append(x.stored(server, key)).append(' ');
            }
        }
        for (int k = 0; k < x.waiting(); k++) {
            for (int what = 0; what < 7; what++) {
                all.append(x.message(k, what)).append(' ');
            }
        }
        for (int read = 0; x.outcome(read) >= 0; read++) {
            all.append(x.outcome(read)).append(' ').append(x.value(read)).append(' ');
        }
        return all.toString();
    }

    /** Delivers in order until none waits. */
    static void deliverAll(QuorumLog x) {
        for (int i = 0; i < 100000 && x.deliver(0) >= 0; i++) {
            continue;
        }
    }

    static void deliver(QuorumLog x, int times) {
        for (int i = 0; i < times; i++) {
            x.deliver(0);
        }
    }

    static void loseAll(QuorumLog x) {
        for (int i = 0; i < 100 && x.lose(0); i++) {
            continue;
        }
    }

    /** Loses the waiting messages to one server. */
    static void loseTo(QuorumLog x, int server) {
        for (int k = x.waiting() - 1; k >= 0; k--) {
            if (x.message(k, 2) == server) {
                x.lose(k);
            }
        }
    }

    /** A new object whose first leader is elected, has its NOTHING on all servers, and no message waits. */
    static QuorumLog led(int members, int leader) {
        QuorumLog x = new QuorumLog(members);
        x.timer(leader);
        deliverAll(x);
        return x;
    }
}
