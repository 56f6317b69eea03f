/**
 * A judge of binary compatibility: two baselines of types with members are compared by rules.
 *
 * <p>All rows are made with the object and used again, so that no later call makes anything.
 */
public final class CompatibilityJudge {
    public static final int REFUSED = -1;

    private static final int OLD = 0;
    private static final int NEW = 1;
    private static final int BASELINE_LIMIT = 2;

    private static final int TYPE_LIMIT = 12;
    private static final int INTERFACE_LIMIT = 3;
    private static final int MEMBER_LIMIT = 8;
    private static final int NO_TYPE = -1;
    private static final int NOWHERE = 12;

    private static final int CLASS = 0;
    private static final int INTERFACE = 1;

    private static final int TYPE_PUBLIC = 1;
    private static final int TYPE_ABSTRACT = 2;
    private static final int TYPE_FINAL = 4;
    private static final int TYPE_FLAGS = 7;

    private static final int FIELD = 0;
    private static final int METHOD = 1;
    private static final int CONSTRUCTOR = 2;
    private static final int[] KEY_LIMITS = {64, 512, 8};

    private static final int PRIVATE = 0;
    private static final int PROTECTED = 2;
    private static final int PUBLIC = 3;
    private static final int ACCESS = 3;
    private static final int STATIC = 4;
    private static final int FINAL = 8;
    private static final int ABSTRACT = 16;
    private static final int MEMBER_FLAGS = 31;

    private static final int TYPE_GONE = 0;
    private static final int KIND_CHANGED = 1;
    private static final int BECAME_ABSTRACT = 2;
    private static final int BECAME_FINAL = 3;
    private static final int SUPERTYPE_GONE = 4;
    private static final int MEMBER_GONE = 5;
    private static final int ACCESS_LOWERED = 6;
    private static final int STATIC_CHANGED = 7;
    private static final int FIELD_BECAME_FINAL = 8;
    private static final int CONSTANT_CHANGED = 9;
    private static final int METHOD_BECAME_ABSTRACT = 10;
    private static final int METHOD_BECAME_FINAL = 11;
    private static final int INHERITED_NARROWED = 12;
    private static final int ABSTRACT_METHOD_ADDED = 13;
    private static final int RULE_LIMIT = 14;
    private static final int[] SEVERITIES = {3, 3, 2, 2, 3, 3, 3, 3, 2, 1, 3, 2, 2, 1};
    private static final int NO_DETAIL = -1;

    /**
     * A type has at most 2 findings of the rules 2 and 3, 11 of rule 4, 4 for each old member (a
     * field can break the rules 6 to 9 at once) and 1 for each new one.
     */
    private static final int FINDING_LIMIT =
            TYPE_LIMIT * (2 + TYPE_LIMIT - 1 + 4 * MEMBER_LIMIT + MEMBER_LIMIT);

    private final Baseline[] baselines;
    private final Comparison comparison;
    /** For each rule the set of types for which it is suppressed: bit t stands for type t. */
    private final int[] suppressed;

    public CompatibilityJudge() {
        baselines = new Baseline[] {new Baseline(), new Baseline()};
        comparison = new Comparison();
        suppressed = new int[RULE_LIMIT];
    }

    public int type(int baseline, int type, int kind, int flags, int parent) {
        if (!isTypeOf(baseline, type) || !isWithin(kind, INTERFACE + 1)
                || !isWithin(flags, TYPE_FLAGS + 1)
                || (parent != NO_TYPE && !isWithin(parent, TYPE_LIMIT))) {
            return REFUSED;
        }
        Baseline side = baselines[baseline];
        if (side.types[type].defined || parent >= type || !isTypeAllowed(kind, flags, parent)) {
            return REFUSED;
        }
        side.types[type].define(kind, flags, parent);
        side.settle();
        comparison.stale = true;
        return 1;
    }

    public int implement(int baseline, int type, int other) {
        if (!isTypeOf(baseline, type) || !isWithin(other, TYPE_LIMIT) || other >= type) {
            return REFUSED;
        }
        Baseline side = baselines[baseline];
        Type target = side.types[type];
        if (!target.defined || target.interfaceCount >= INTERFACE_LIMIT
                || target.names(other)) {
            return REFUSED;
        }
        target.addInterface(other);
        side.settle();
        comparison.stale = true;
        return target.interfaceCount;
    }

    public int member(int baseline, int type, int kind, int key, int flags) {
        if (!isTypeOf(baseline, type) || !isKey(kind, key)
                || !isWithin(flags, MEMBER_FLAGS + 1)) {
            return REFUSED;
        }
        Type target = baselines[baseline].types[type];
        if (!target.defined || target.memberCount >= MEMBER_LIMIT
                || target.own(kind, key) != null || !isMemberAllowed(kind, flags)
                || (target.kind == INTERFACE && !isAllowedInInterface(kind, flags))) {
            return REFUSED;
        }
        target.addMember(kind, key, flags);
        comparison.stale = true;
        return target.memberCount - 1;
    }

    public int constant(int baseline, int type, int place, int value) {
        if (!isMemberOf(baseline, type, place)) {
            return REFUSED;
        }
        Member field = baselines[baseline].types[type].members[place];
        if (field.kind != FIELD) {
            return REFUSED;
        }
        int before = field.hasConstant ? 1 : 0;
        field.hasConstant = true;
        field.constant = value;
        comparison.stale = true;
        return before;
    }

    public int remove(int baseline, int type) {
        if (!isTypeOf(baseline, type) || !baselines[baseline].types[type].defined) {
            return REFUSED;
        }
        baselines[baseline].types[type].clear();
        baselines[baseline].settle();
        comparison.stale = true;
        return 1;
    }

    public int drop(int baseline, int type, int place) {
        if (!isMemberOf(baseline, type, place)) {
            return REFUSED;
        }
        Type target = baselines[baseline].types[type];
        target.takeOut(place);
        comparison.stale = true;
        return target.memberCount;
    }

    public int copy() {
        baselines[NEW].become(baselines[OLD]);
        comparison.stale = true;
        return baselines[NEW].typeCount();
    }

    public void swap() {
        Baseline old = baselines[OLD];
        baselines[OLD] = baselines[NEW];
        baselines[NEW] = old;
        comparison.stale = true;
    }

    public int suppress(int rule, int type, boolean on) {
        if (!isWithin(rule, RULE_LIMIT) || !isWithin(type, TYPE_LIMIT)) {
            return REFUSED;
        }
        if (isSuppressed(rule, type) == on) {
            return 0;
        }
        suppressed[rule] = suppressed[rule] ^ (1 << type);
        return 1;
    }

    public int supertypes(int baseline, int type) {
        if (!isTypeOf(baseline, type)) {
            return REFUSED;
        }
        return baselines[baseline].types[type].supertypes;
    }

    public int look(int baseline, int type, int kind, int key) {
        if (!isTypeOf(baseline, type) || !isKey(kind, key)) {
            return REFUSED;
        }
        return baselines[baseline].whereIs(type, kind, key);
    }

    public int findings() {
        comparison.bringUpToDate(baselines[OLD], baselines[NEW]);
        return comparison.size;
    }

    public int finding(int index, int what) {
        comparison.bringUpToDate(baselines[OLD], baselines[NEW]);
        if (!isWithin(index, comparison.size)) {
            return REFUSED;
        }
        int rule = comparison.rules[index];
        int type = comparison.types[index];
        switch (what) {
            case 0:
                return rule;
            case 1:
                return type;
            case 2:
                return comparison.details[index];
            case 3:
                return SEVERITIES[rule];
            case 4:
                return isSuppressed(rule, type) ? 1 : 0;
            default:
                return REFUSED;
        }
    }

    public int verdict() {
        comparison.bringUpToDate(baselines[OLD], baselines[NEW]);
        int greatest = 0;
        for (int i = 0; i < comparison.size; i++) {
            int rule = comparison.rules[i];
            if (!isSuppressed(rule, comparison.types[i])) {
                greatest = Math.max(greatest, SEVERITIES[rule]);
            }
        }
        return greatest;
    }

    public int byRule(int rule) {
        if (!isWithin(rule, RULE_LIMIT)) {
            return REFUSED;
        }
        comparison.bringUpToDate(baselines[OLD], baselines[NEW]);
        int number = 0;
        for (int i = 0; i < comparison.size; i++) {
            if (comparison.rules[i] == rule && !isSuppressed(rule, comparison.types[i])) {
                number++;
            }
        }
        return number;
    }

    public int count(int what) {
        switch (what) {
            case 0:
                return baselines[OLD].typeCount();
            case 1:
                return baselines[NEW].typeCount();
            case 2:
                return baselines[OLD].memberCount();
            case 3:
                return baselines[NEW].memberCount();
            case 4:
                return suppressionCount();
            default:
                return REFUSED;
        }
    }

    private boolean isSuppressed(int rule, int type) {
        return contains(suppressed[rule], type);
    }

    private int suppressionCount() {
        int number = 0;
        for (int rule = 0; rule < RULE_LIMIT; rule++) {
            number += Integer.bitCount(suppressed[rule]);
        }
        return number;
    }

    /** Members of types that are not defined are none, so this asks for the type too. */
    private boolean isMemberOf(int baseline, int type, int place) {
        return isTypeOf(baseline, type)
                && isWithin(place, baselines[baseline].types[type].memberCount);
    }

    private static boolean isTypeOf(int baseline, int type) {
        return isWithin(baseline, BASELINE_LIMIT) && isWithin(type, TYPE_LIMIT);
    }

    private static boolean isKey(int kind, int key) {
        return isWithin(kind, CONSTRUCTOR + 1) && isWithin(key, KEY_LIMITS[kind]);
    }

    private static boolean isWithin(int number, int limit) {
        return number >= 0 && number < limit;
    }

    private static boolean contains(int set, int type) {
        return (set >> type & 1) != 0;
    }

    private static boolean isTypeAllowed(int kind, int flags, int parent) {
        boolean isAbstract = (flags & TYPE_ABSTRACT) != 0;
        boolean isFinal = (flags & TYPE_FINAL) != 0;
        if (kind == INTERFACE) {
            return !isAbstract && !isFinal && parent == NO_TYPE;
        }
        return !(isAbstract && isFinal);
    }

    private static boolean isMemberAllowed(int kind, int flags) {
        boolean isAbstract = (flags & ABSTRACT) != 0;
        if (isAbstract && (kind != METHOD || (flags & (STATIC | FINAL)) != 0
                || (flags & ACCESS) == PRIVATE)) {
            return false;
        }
        return kind != CONSTRUCTOR || (flags & (STATIC | FINAL)) == 0;
    }

    private static boolean isAllowedInInterface(int kind, int flags) {
        int access = flags & ACCESS;
        if (kind == FIELD) {
            return access == PUBLIC && (flags & STATIC) != 0 && (flags & FINAL) != 0;
        }
        return kind == METHOD && (flags & FINAL) == 0
                && (access == PUBLIC || access == PRIVATE);
    }

    /** A field, method or constructor. */
    private static final class Member {
        int kind;
        int key;
        int flags;
        boolean hasConstant;
        int constant;

        void define(int newKind, int newKey, int newFlags) {
            kind = newKind;
            key = newKey;
            flags = newFlags;
            hasConstant = false;
            constant = 0;
        }

        void become(Member other) {
            kind = other.kind;
            key = other.key;
            flags = other.flags;
            hasConstant = other.hasConstant;
            constant = other.constant;
        }

        boolean hasAny(int wantedFlags) {
            return (flags & wantedFlags) != 0;
        }

        int access() {
            return flags & ACCESS;
        }

        boolean isOpen() {
            return access() >= PROTECTED;
        }

        boolean hasConstantOf(Member other) {
            return hasConstant && other.hasConstant && constant == other.constant;
        }
    }

    /** What a baseline says of one number; one that is not defined has nothing of its own. */
    private static final class Type {
        boolean defined;
        int kind;
        int flags;
        int parent;
        final int[] interfaces;
        int interfaceCount;
        final Member[] members;
        int memberCount;
        /** The parent if it counts now, else NO_TYPE. */
        int superclass;
        /** The supertypes that count now: bit s stands for type s. */
        int supertypes;

        Type() {
            interfaces = new int[INTERFACE_LIMIT];
            members = new Member[MEMBER_LIMIT];
            for (int i = 0; i < MEMBER_LIMIT; i++) {
                members[i] = new Member();
            }
            parent = NO_TYPE;
            superclass = NO_TYPE;
        }

        void define(int newKind, int newFlags, int newParent) {
            defined = true;
            kind = newKind;
            flags = newFlags;
            parent = newParent;
        }

        void clear() {
            defined = false;
            kind = CLASS;
            flags = 0;
            parent = NO_TYPE;
            interfaceCount = 0;
            memberCount = 0;
        }

        void become(Type other) {
            defined = other.defined;
            kind = other.kind;
            flags = other.flags;
            parent = other.parent;
            System.arraycopy(other.interfaces, 0, interfaces, 0, INTERFACE_LIMIT);
            interfaceCount = other.interfaceCount;
            for (int i = 0; i < other.memberCount; i++) {
                members[i].become(other.members[i]);
            }
            memberCount = other.memberCount;
            superclass = other.superclass;
            supertypes = other.supertypes;
        }

        boolean hasAny(int wantedFlags) {
            return (flags & wantedFlags) != 0;
        }

        boolean isPublic() {
            return defined && hasAny(TYPE_PUBLIC);
        }

        boolean names(int other) {
            for (int i = 0; i < interfaceCount; i++) {
                if (interfaces[i] == other) {
                    return true;
                }
            }
            return false;
        }

        void addInterface(int other) {
            if (interfaceCount < INTERFACE_LIMIT) {
                interfaces[interfaceCount] = other;
                interfaceCount++;
            }
        }

        void addMember(int newKind, int newKey, int newFlags) {
            if (memberCount < MEMBER_LIMIT) {
                members[memberCount].define(newKind, newKey, newFlags);
                memberCount++;
            }
        }

        /** The contents move, not the objects, so that every place keeps a member for later. */
        void takeOut(int place) {
            for (int i = place; i < memberCount - 1; i++) {
                members[i].become(members[i + 1]);
            }
            memberCount--;
        }

        /** The type's own member of the kind and key, or null. */
        Member own(int wantedKind, int wantedKey) {
            for (int i = 0; i < memberCount; i++) {
                if (members[i].kind == wantedKind && members[i].key == wantedKey) {
                    return members[i];
                }
            }
            return null;
        }
    }

    /** One side of the comparison, with the looking up in it. */
    private static final class Baseline {
        final Type[] types;
        /** While a field is looked up: for each type reached, the type that has the field. */
        private final int[] fieldOwners;

        Baseline() {
            types = new Type[TYPE_LIMIT];
            for (int t = 0; t < TYPE_LIMIT; t++) {
                types[t] = new Type();
            }
            fieldOwners = new int[TYPE_LIMIT];
        }

        void become(Baseline other) {
            for (int t = 0; t < TYPE_LIMIT; t++) {
                types[t].become(other.types[t]);
            }
        }

        int typeCount() {
            int number = 0;
            for (int t = 0; t < TYPE_LIMIT; t++) {
                if (types[t].defined) {
                    number++;
                }
            }
            return number;
        }

        int memberCount() {
            int number = 0;
            for (int t = 0; t < TYPE_LIMIT; t++) {
                number += types[t].memberCount;
            }
            return number;
        }

        /** Supertypes have lower numbers, so rising through the numbers meets them settled. */
        void settle() {
            for (int t = 0; t < TYPE_LIMIT; t++) {
                types[t].superclass = isClass(types[t].parent) ? types[t].parent : NO_TYPE;
                types[t].supertypes = gatherSupertypes(types[t]);
            }
        }

        private int gatherSupertypes(Type type) {
            int set = 0;
            if (type.superclass != NO_TYPE) {
                set = 1 << type.superclass | types[type.superclass].supertypes;
            }
            for (int i = 0; i < type.interfaceCount; i++) {
                int other = type.interfaces[i];
                if (isInterface(other)) {
                    set = set | 1 << other | types[other].supertypes;
                }
            }
            return set;
        }

        private boolean isClass(int number) {
            return isWithin(number, TYPE_LIMIT) && types[number].defined
                    && types[number].kind == CLASS;
        }

        private boolean isInterface(int number) {
            return types[number].defined && types[number].kind == INTERFACE;
        }

        /** The type in which looking up from a type ends, or NOWHERE. */
        int whereIs(int from, int kind, int key) {
            if (!types[from].defined) {
                return NOWHERE;
            }
            if (kind == FIELD) {
                return whereIsField(from, key);
            }
            if (kind == METHOD) {
                return whereIsMethod(from, key);
            }
            return types[from].own(kind, key) != null ? from : NOWHERE;
        }

        /** By rising numbers, so that no supertype is searched twice. */
        private int whereIsField(int from, int key) {
            int reached = types[from].supertypes | 1 << from;
            for (int t = 0; t <= from; t++) {
                if (contains(reached, t)) {
                    fieldOwners[t] = fieldOwnerFor(t, key);
                }
            }
            return fieldOwners[from];
        }

        private int fieldOwnerFor(int number, int key) {
            Type type = types[number];
            if (type.own(FIELD, key) != null) {
                return number;
            }
            for (int i = 0; i < type.interfaceCount; i++) {
                int other = type.interfaces[i];
                if (isInterface(other) && fieldOwners[other] != NOWHERE) {
                    return fieldOwners[other];
                }
            }
            return type.superclass == NO_TYPE ? NOWHERE : fieldOwners[type.superclass];
        }

        /** An interface has no superclass, so that one way serves both kinds of types. */
        private int whereIsMethod(int from, int key) {
            int number = from;
            for (int step = 0; step < TYPE_LIMIT && number != NO_TYPE; step++) {
                if (types[number].own(METHOD, key) != null) {
                    return number;
                }
                number = types[number].superclass;
            }
            return whereIsInterfaceMethod(types[from].supertypes, key);
        }

        private int whereIsInterfaceMethod(int supertypes, int key) {
            int firstAbstract = NOWHERE;
            for (int t = 0; t < TYPE_LIMIT; t++) {
                if (!contains(supertypes, t) || types[t].kind != INTERFACE) {
                    continue;
                }
                Member method = types[t].own(METHOD, key);
                if (method == null || method.hasAny(STATIC) || method.access() == PRIVATE) {
                    continue;
                }
                if (!method.hasAny(ABSTRACT)) {
                    return t;
                }
                if (firstAbstract == NOWHERE) {
                    firstAbstract = t;
                }
            }
            return firstAbstract;
        }
    }

    /** The rules, and the findings of the last comparison in their order. */
    private static final class Comparison {
        final int[] rules;
        final int[] types;
        final int[] details;
        int size;
        /** Set by what changes a baseline, as findings are made anew only when asked for. */
        boolean stale;
        /** For each place of the type at hand what looking up on the other side gives, or null. */
        private final Member[] partners;

        Comparison() {
            rules = new int[FINDING_LIMIT];
            types = new int[FINDING_LIMIT];
            details = new int[FINDING_LIMIT];
            partners = new Member[MEMBER_LIMIT];
        }

        void bringUpToDate(Baseline before, Baseline after) {
            if (!stale) {
                return;
            }
            stale = false;
            size = 0;
            for (int t = 0; t < TYPE_LIMIT; t++) {
                if (before.types[t].isPublic()) {
                    judgeType(before, after, t);
                }
            }
        }

        private void add(int rule, int type, int detail) {
            if (size < FINDING_LIMIT) {
                rules[size] = rule;
                types[size] = type;
                details[size] = detail;
                size++;
            }
        }

        private void judgeType(Baseline before, Baseline after, int t) {
            Type oldType = before.types[t];
            Type newType = after.types[t];
            if (!newType.isPublic()) {
                add(TYPE_GONE, t, NO_DETAIL);
            } else if (newType.kind != oldType.kind) {
                add(KIND_CHANGED, t, NO_DETAIL);
            } else {
                judgeHeader(oldType, newType, t);
                findPartners(oldType, after, t);
                judgeOldMembers(oldType, t);
                findPartners(newType, before, t);
                judgeNewMembers(oldType, newType, t);
            }
        }

        private void judgeHeader(Type oldType, Type newType, int t) {
            if (!oldType.hasAny(TYPE_ABSTRACT) && newType.hasAny(TYPE_ABSTRACT)) {
                add(BECAME_ABSTRACT, t, NO_DETAIL);
            }
            if (!oldType.hasAny(TYPE_FINAL) && newType.hasAny(TYPE_FINAL)) {
                add(BECAME_FINAL, t, NO_DETAIL);
            }
            int lost = oldType.supertypes & ~newType.supertypes;
            for (int s = 0; s < TYPE_LIMIT; s++) {
                if (contains(lost, s)) {
                    add(SUPERTYPE_GONE, t, s);
                }
            }
        }

        private void judgeOldMembers(Type oldType, int t) {
            for (int rule = MEMBER_GONE; rule <= METHOD_BECAME_FINAL; rule++) {
                for (int place = 0; place < oldType.memberCount; place++) {
                    Member member = oldType.members[place];
                    if (member.isOpen() && breaksAsOld(rule, oldType, member, partners[place])) {
                        add(rule, t, place);
                    }
                }
            }
        }

        private void judgeNewMembers(Type oldType, Type newType, int t) {
            for (int rule = INHERITED_NARROWED; rule <= ABSTRACT_METHOD_ADDED; rule++) {
                for (int place = 0; place < newType.memberCount; place++) {
                    Member member = newType.members[place];
                    if (oldType.own(member.kind, member.key) == null
                            && breaksAsNew(rule, member, partners[place])) {
                        add(rule, t, place);
                    }
                }
            }
        }

        /** Once for all rules, as looking up is the dearest part. */
        private void findPartners(Type type, Baseline otherSide, int t) {
            for (int place = 0; place < type.memberCount; place++) {
                Member member = type.members[place];
                int where = otherSide.whereIs(t, member.kind, member.key);
                partners[place] = where == NOWHERE
                        ? null : otherSide.types[where].own(member.kind, member.key);
            }
        }

        private static boolean breaksAsOld(int rule, Type oldType, Member m, Member n) {
            if (n == null) {
                return rule == MEMBER_GONE;
            }
            switch (rule) {
                case ACCESS_LOWERED:
                    return n.access() < m.access();
                case STATIC_CHANGED:
                    return m.hasAny(STATIC) != n.hasAny(STATIC);
                case FIELD_BECAME_FINAL:
                    return m.kind == FIELD && !m.hasAny(FINAL) && n.hasAny(FINAL);
                case CONSTANT_CHANGED:
                    return m.hasConstant && !m.hasConstantOf(n);
                case METHOD_BECAME_ABSTRACT:
                    return m.kind == METHOD && !m.hasAny(ABSTRACT) && n.hasAny(ABSTRACT);
                case METHOD_BECAME_FINAL:
                    return m.kind == METHOD && !m.hasAny(STATIC | FINAL)
                            && !oldType.hasAny(TYPE_FINAL) && n.hasAny(FINAL);
                default:
                    return false;
            }
        }

        private static boolean breaksAsNew(int rule, Member n, Member m) {
            if (rule == ABSTRACT_METHOD_ADDED) {
                return n.kind == METHOD && n.hasAny(ABSTRACT) && m == null;
            }
            return n.kind != CONSTRUCTOR && m != null && m.isOpen()
                    && (n.access() < m.access() || n.hasAny(STATIC) != m.hasAny(STATIC));
        }
    }
}
