/** What the tests share: typing, loading and writing out a text, and telling answers that are not due. */
final class Due {
    private static int wrong = 0;

    private Due() {
    }

    interface Call {
        long answer();
    }

    static void same(String what, long got, long want) {
        if (got != want) {
            tell(what + " answered " + got + ", due is " + want);
        }
    }

    static void same(String what, String got, String want) {
        if (!got.equals(want)) {
            tell(what + " answered " + got + ", due is " + want);
        }
    }

    static void tell(String what) {
        wrong++;
        System.out.println(what.replace("\n", "\\n"));
    }

    /** The call must throw an exception of exactly this class. */
    static void thrown(String what, Class<? extends RuntimeException> want, Call call) {
        try {
            long got = call.answer();
            tell(what + " answered " + got + ", due is " + want.getSimpleName());
        } catch (RuntimeException e) {
            if (e.getClass() != want) {
                tell(what + " threw " + e + ", due is " + want.getSimpleName());
            }
        }
    }

    static void type(IndentedNotes x, String text) {
        for (int from = 0; from < text.length(); from += 8) {
            String some = text.substring(from, Math.min(text.length(), from + 8));
            long characters = 0;
            for (int i = 0; i < some.length(); i++) {
                characters = characters << 8 | some.charAt(i);
            }
            if (x.type(characters, some.length()) == IndentedNotes.NONE) {
                tell("typing " + text + " was refused");
            }
        }
    }

    static IndentedNotes typed(String text) {
        IndentedNotes x = new IndentedNotes();
        type(x, text);
        return x;
    }

    static IndentedNotes loaded(String text) {
        IndentedNotes x = typed(text);
        try {
            x.load();
        } catch (IllegalArgumentException e) {
            tell("loading " + text + " threw " + e);
        }
        return x;
    }

    /** All of what was written out latest. */
    static String written(IndentedNotes x) {
        StringBuilder all = new StringBuilder();
        int c = x.written(0);
        while (c != IndentedNotes.NONE) {
            all.append((char) c);
            c = x.written(all.length());
        }
        return all.toString();
    }

    static String writtenOut(IndentedNotes x) {
        int length = x.write();
        String all = written(x);
        same("the length of " + all, length, all.length());
        return all;
    }

    /** All that can be seen of what is loaded and written out, without a change to it. */
    static String looks(IndentedNotes x) {
        StringBuilder all = new StringBuilder();
        int n = 0;
        for (; x.kind(n) != IndentedNotes.NONE; n++) {
            int kind = x.kind(n);
            all.append(n).append(" is ").append(kind).append(" of ").append(x.size(n)).append(':');
            for (int i = 0; i < x.size(n); i++) {
                all.append(' ').append(kind == 3 ? x.letter(n, i) : x.item(n, i));
                all.append(kind == 5 ? " at " + x.key(n, i) : "");
            }
            all.append(kind == 1 || kind == 2 ? " " + x.number(n) : "").append("; ");
        }
        return all.append("written ").append(written(x)).toString();
    }

    /** The nodes of the text must be of these kinds, in their order. */
    static void kinds(String text, int... want) {
        IndentedNotes x = typed(text);
        same("how many nodes " + text + " has", x.load(), want.length);
        for (int n = 0; n < want.length; n++) {
            same("the kind of node " + n + " of " + text, x.kind(n), want[n]);
        }
        same("behind the nodes of " + text, x.kind(want.length), IndentedNotes.NONE);
    }

    /** The text must load, and be this when it is written out. */
    static void loads(String text, String want) {
        IndentedNotes x = typed(text);
        try {
            x.load();
            same("writing out " + text, writtenOut(x), want);
        } catch (IllegalArgumentException e) {
            tell("loading " + text + " threw " + e + ", due is " + want);
        }
    }

    /** The text must be wrong, and leave what was loaded before. */
    static void refuses(String text) {
        IndentedNotes x = loaded("[before]");
        x.wipe();
        type(x, text);
        thrown("loading " + text, IllegalArgumentException.class, x::load);
        same("what is loaded behind the wrong text " + text, writtenOut(x), "[\"before\"]");
        same("the length of the wrong text " + text, x.wipe(), text.length());
    }

    static void end() {
        if (wrong > 0) {
            System.exit(1);
        }
    }
}
