/**
 * Values of attributes: references to characters and to entities whose texts are put in, ring by
 * ring, blanks, and what is left of them.
 */
public final class ValueDesk {
    private static final int ENTITIES = 26;
    private static final int TAPE_ROOM = 200;
    private static final int TEXT_ROOM = 100;
    private static final int VALUE_ROOM = 300;
    private static final int HIGHEST_LIMIT = 100000;
    private static final int WORD = 8;

    private static final int NO_FAULT = 0;
    private static final int SYNTAX = 1;
    private static final int UNKNOWN = 2;
    private static final int RING = 3;
    private static final int LESS = 4;
    private static final int NUMBER = 5;
    private static final int METER = 6;
    private static final int HALF = 7;
    private static final int ROOM = 8;

    private static final int HAD_A_TEXT = -9;
    private static final int REFUSED = -10;
    private static final int NONE = -1;

    private static final int BLANK = 32;
    private static final int LESS_SIGN = '<';

    private final Row tape;
    private final Row draft;
    private final Row last;
    private final Entity[] entities;
    private final Reference reference;
    private int faultPlace;
    private int limitOfMeter;
    private int meter;
    private int deepest;

    public ValueDesk() {
        tape = new Row(TAPE_ROOM);
        draft = new Row(TEXT_ROOM);
        last = new Row(VALUE_ROOM);
        entities = new Entity[ENTITIES];
        for (int k = 0; k < ENTITIES; k++) {
            entities[k] = new Entity();
        }
        reference = new Reference();
        faultPlace = NONE;
    }

    public boolean put(long v, int n) {
        if (n < 1 || n > WORD || tape.size() + n > TAPE_ROOM) {
            return false;
        }
        for (int i = n - 1; i >= 0; i--) {
            tape.add((int) (v >>> (8 * i)) & 255);
        }
        return true;
    }

    public int define(int k) {
        Entity entity = entityOf(k);
        if (entity == null) {
            return REFUSED;
        }
        faultPlace = NONE;
        int fault = readDraft();
        tape.empty();
        if (fault != NO_FAULT) {
            return -fault;
        }
        if (entity.known) {
            return HAD_A_TEXT;
        }
        entity.learn(draft);
        return draft.size();
    }

    public int value(int mode, int limit) {
        if (mode < 0 || mode > 1 || limit < 0 || limit > HIGHEST_LIMIT) {
            return REFUSED;
        }
        faultPlace = NONE;
        limitOfMeter = limit;
        meter = 0;
        deepest = 0;
        last.empty();
        int fault = readValue(tape, 0, NONE);
        tape.empty();
        if (fault != NO_FAULT) {
            last.empty();
            return -fault;
        }
        if (mode == 1) {
            last.squeeze();
        }
        return last.size();
    }

    public int place() {
        return faultPlace;
    }

    public long characters(int k) {
        return last.wordAt(k);
    }

    public long text(int e, int k) {
        Entity entity = entityOf(e);
        return entity == null || !entity.known ? NONE : entity.row.wordAt(k);
    }

    public int clear() {
        int had = known();
        for (int k = 0; k < ENTITIES; k++) {
            entities[k].known = false;
        }
        return had;
    }

    public int count(int what) {
        switch (what) {
            case 0: return tape.size();
            case 1: return known();
            case 2: return last.size();
            case 3: return meter;
            case 4: return deepest;
            default: return NONE;
        }
    }

    private int known() {
        int found = 0;
        for (int k = 0; k < ENTITIES; k++) {
            if (entities[k].known) {
                found++;
            }
        }
        return found;
    }

    private Entity entityOf(int k) {
        return k < 0 || k >= ENTITIES ? null : entities[k];
    }

    private int fail(int fault, int at) {
        faultPlace = at;
        return fault;
    }

    private int addTo(Row row, int character, int here) {
        return row.add(character) ? NO_FAULT : fail(ROOM, here);
    }

    /** Reads the tape into the draft, so that a fault leaves every entity as it is. */
    private int readDraft() {
        draft.empty();
        int behind = 0;
        for (int at = 0; at < tape.size(); at++) {
            if (at < behind) {
                continue;
            }
            int fault;
            if (tape.at(at) == '&') {
                reference.read(tape, at);
                behind = reference.end;
                fault = draftReference(at);
            } else {
                fault = draftByte(at);
            }
            if (fault != NO_FAULT) {
                return fault;
            }
        }
        return NO_FAULT;
    }

    private int draftByte(int at) {
        int standing = tape.at(at);
        return isCharacter(standing) ? addTo(draft, standing, at) : fail(SYNTAX, at);
    }

    private int draftReference(int at) {
        if (!reference.whole) {
            return fail(SYNTAX, reference.end);
        }
        if (reference.toEntity) {
            return draftAsItStands(at, reference.end);
        }
        return addByNumber(draft, at);
    }

    /** The place of a fault is the & also where a later byte of the reference lacks room. */
    private int draftAsItStands(int from, int end) {
        for (int at = from; at < end; at++) {
            if (!draft.add(tape.at(at))) {
                return fail(ROOM, from);
            }
        }
        return NO_FAULT;
    }

    private int addByNumber(Row row, int here) {
        int number = reference.number;
        return isCharacter(number) ? addTo(row, number, here) : fail(NUMBER, here);
    }

    /**
     * Reads the tape (depth 0) or an entity's text into the last value. The tape's own faults are
     * told where they are; all that a text brings is told at outer, its reference in the tape.
     */
    private int readValue(Row row, int depth, int outer) {
        int behind = 0;
        for (int at = 0; at < row.size(); at++) {
            if (at < behind) {
                continue;
            }
            int here = depth == 0 ? at : outer;
            int fault;
            if (row.at(at) == '&') {
                reference.read(row, at);
                // Kept ahead of what the reference brings, which uses the same object again.
                behind = reference.end;
                fault = reference.whole ? takeReference(depth, here) : failBroken(row, depth, outer);
            } else {
                fault = takeByte(row.at(at), here);
            }
            if (fault != NO_FAULT) {
                return fault;
            }
        }
        return NO_FAULT;
    }

    private int failBroken(Row row, int depth, int outer) {
        if (depth == 0) {
            return fail(SYNTAX, reference.end);
        }
        return fail(reference.end < row.size() ? SYNTAX : HALF, outer);
    }

    private int takeByte(int standing, int here) {
        if (standing == LESS_SIGN) {
            return fail(LESS, here);
        }
        if (!isCharacter(standing)) {
            return fail(SYNTAX, here);
        }
        return addTo(last, standing < BLANK ? BLANK : standing, here);
    }

    private int takeReference(int depth, int here) {
        return reference.toEntity ? takeEntity(reference.number, depth, here) : addByNumber(last, here);
    }

    private int takeEntity(int k, int depth, int here) {
        Entity entity = entityOf(k);
        if (entity == null || !entity.known) {
            return fail(UNKNOWN, here);
        }
        // Each level has an entity of its own open, so that only a ring could go deeper.
        if (entity.open || depth >= ENTITIES) {
            return fail(RING, here);
        }
        if (entity.row.size() > limitOfMeter - meter) {
            return fail(METER, here);
        }
        meter += entity.row.size();
        deepest = Math.max(deepest, depth + 1);
        entity.open = true;
        int fault = readValue(entity.row, depth + 1, here);
        entity.open = false;
        return fault;
    }

    private static boolean isCharacter(int c) {
        return c == 9 || c == 10 || c == 13 || c >= 32 && c <= 126;
    }

    /** Bytes in a room that is made once and used again. */
    private static final class Row {
        private final int[] bytes;
        private int size;

        Row(int room) {
            bytes = new int[Math.max(room, 0)];
        }

        int size() {
            return size;
        }

        void empty() {
            size = 0;
        }

        boolean add(int b) {
            if (size >= bytes.length) {
                return false;
            }
            bytes[size] = b;
            size++;
            return true;
        }

        /** The byte, or -1, which no reference goes on with, beyond the ends. */
        int at(int i) {
            return i < 0 || i >= size ? NONE : bytes[i];
        }

        long wordAt(int k) {
            if (k < 0) {
                return NONE;
            }
            long word = 0;
            for (int i = 0; i < WORD; i++) {
                // Not k + i < size, which a large k would wrap round.
                word = word << 8 | (k < size - i ? bytes[k + i] : 0);
            }
            return word;
        }

        /** Leaves out the blanks at both ends, and all but one of those side by side. */
        void squeeze() {
            int kept = 0;
            for (int i = 0; i < size; i++) {
                if (bytes[i] != BLANK || kept > 0 && bytes[kept - 1] != BLANK) {
                    bytes[kept] = bytes[i];
                    kept++;
                }
            }
            size = kept > 0 && bytes[kept - 1] == BLANK ? kept - 1 : kept;
        }
    }

    /** An entity, its text if it is known, and whether that is being put in. */
    private static final class Entity {
        private final Row row = new Row(TEXT_ROOM);
        private boolean known;
        private boolean open;

        void learn(Row from) {
            row.empty();
            for (int i = 0; i < from.size(); i++) {
                row.add(from.at(i));
            }
            known = true;
        }
    }

    /** The reference that was read last; one object serves them all. */
    private static final class Reference {
        private static final int MOST_DIGITS = 6;

        private boolean whole;
        private boolean toEntity;
        private int number;
        /** Behind the ; of a whole reference, else where it does not go on. */
        private int end;

        void read(Row row, int start) {
            int first = row.at(start + 1);
            toEntity = first != '#';
            if (!toEntity) {
                readNumber(row, start + 2);
            } else if (first >= 'a' && first <= 'z') {
                number = first - 'a';
                close(row, start + 2);
            } else {
                breakOff(start + 1);
            }
        }

        private void readNumber(Row row, int start) {
            boolean hex = row.at(start) == 'x';
            int base = hex ? 16 : 10;
            int from = hex ? start + 1 : start;
            int digits = 0;
            number = 0;
            while (digits < MOST_DIGITS && digitOf(row.at(from + digits), base) >= 0) {
                number = number * base + digitOf(row.at(from + digits), base);
                digits++;
            }
            if (digits == 0) {
                breakOff(from);
            } else {
                close(row, from + digits);
            }
        }

        private void close(Row row, int at) {
            whole = row.at(at) == ';';
            end = whole ? at + 1 : at;
        }

        private void breakOff(int at) {
            whole = false;
            end = at;
        }

        private static int digitOf(int c, int base) {
            if (c >= '0' && c <= '9') {
                return c - '0';
            }
            if (base == 16 && c >= 'a' && c <= 'f') {
                return c - 'a' + 10;
            }
            if (base == 16 && c >= 'A' && c <= 'F') {
                return c - 'A' + 10;
            }
            return NONE;
        }
    }
}
